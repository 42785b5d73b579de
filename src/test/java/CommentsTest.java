/** Promises 7 to 9, 12 and 16 to 21: comments are made, numbered, listed, removed, quoted anew and merged. */
public final class CommentsTest extends Cases {
    private static final String LONG = "abcdefghijklmnopqrstuvwxyz";

    public static void main(String[] args) {
        comment();
        numbers();
        remove();
        quoteAnew();
        list();
        merge();
        mergedQuotesAndWeights();
        Check.finish();
    }

    private static AnchoredComments three() {
        AnchoredComments x = Check.with(LONG);
        x.comment(0, 3);
        x.comment(5, 21);
        x.comment(25, 26);
        return x;
    }

    private static void comment() {
        test("7 comment: what it is at first", () -> {
            AnchoredComments x = Check.with("0123456789");
            Check.due("comment", x.comment(3, 5), 0);
            Check.due("state", x.state(0), ATTACHED);
            Check.due("start", x.range(0, false), 3);
            Check.due("end", x.range(0, true), 5);
            Check.due("weight", x.weight(0), 1);
            Check.due("quotes", Check.quotes(x, 0), "012|34|56789");
            Check.due("distance", x.distance(0), 0);
            Check.due("the document", Check.document(x), "0123456789");
        });
        test("7 comment: the others stay", () -> {
            AnchoredComments x = three();
            String before = Check.all(x);
            Check.due("comment", x.comment(5, 21), 3);
            Check.due("all", Check.all(x), before + " #3 5-21 abcde|fghijklmnopqrstu|vwxyz*1");
        });
        test("7 comment: it quotes the letters as they are then, and keeps them", () -> {
            AnchoredComments x = Check.with("ab");
            x.comment(0, 2);
            Check.insert(x, 1, "cd");
            x.comment(1, 3);
            Check.due("the first", Check.quotes(x, 0), "|ab|");
            Check.due("the second", Check.quotes(x, 1), "a|cd|b");
        });
        test("7 comment: the range of another one, and one across", () -> {
            AnchoredComments x = three();
            Check.due("the same range", x.comment(0, 3), 3);
            Check.due("across", x.comment(2, 6), 4);
            Check.due("ranges", Check.range(x, 3) + " " + Check.range(x, 4), "0-3 2-6");
        });
    }

    private static void numbers() {
        test("7 comment: numbers go on where the last comment was removed", () -> {
            AnchoredComments x = Scenes.small();
            x.remove(3);
            Check.due("comment", x.comment(0, 1), 4);
        });
        test("7 comment: numbers go on where the last comment was merged", () -> {
            AnchoredComments x = Scenes.small();
            Check.due("the last", x.comment(0, 2), 4);
            Check.due("merge", x.merge(), 1);
            Check.due("comment", x.comment(0, 1), 5);
        });
        test("7 comment: a refused one takes no number", () -> {
            AnchoredComments x = Scenes.small();
            x.comment(-1, 1);
            x.comment(0, 0);
            Check.due("comment", x.comment(0, 1), 4);
        });
        test("13 undo: it brings the next number back", () -> {
            AnchoredComments x = Scenes.small();
            x.comment(0, 1);
            x.comment(0, 1);
            x.undo();
            x.undo();
            Check.due("comment", x.comment(0, 1), 4);
        });
        test("29 restore: it brings the next number back", () -> {
            AnchoredComments x = Scenes.small();
            x.comment(0, 1);
            x.restore(0);
            Check.due("comment", x.comment(0, 1), 4);
        });
        test("29 restore: it brings a greater next number, too", () -> {
            AnchoredComments x = Scenes.small();
            x.comment(0, 1);
            x.save(0);
            x.undo();
            x.restore(0);
            Check.due("comment", x.comment(0, 1), 5);
        });
    }

    private static void removed(String name, int comment, String left) {
        test("8 remove: " + name, () -> {
            AnchoredComments x = three();
            Check.due("it", x.remove(comment), 2);
            Check.due("those left", Check.all(x), LONG + left);
            Check.due("twice", x.remove(comment), BAD_INDEX);
        });
    }

    private static void remove() {
        String first = " #0 0-3 |abc|defghi*1";
        String second = " #1 5-21 abcde|fghijklmnopqrstu|vwxyz*1";
        String third = " #2 25-26 tuvwxy|z|*1";
        removed("the first", 0, second + third);
        removed("one between", 1, first + third);
        removed("the last", 2, first + second);
        answers("8 remove: an ORPHAN", after(CommentsTest::three, AnchoredComments::load), x -> x.remove(1), 2);
        test("8 remove: what is made in its place has nothing of it", () -> {
            AnchoredComments x = three();
            x.load();
            x.remove(1);
            x.comment(0, 1);
            Check.due("the new one", Check.range(x, 3) + " " + Check.quotes(x, 3) + " " + x.weight(3), "0-1 |a|bcdefg 1");
        });
    }

    private static void quoteAnew() {
        test("9 quoteAnew: the quote, the prefix and the suffix as they are now", () -> {
            AnchoredComments x = Check.with("..abcdef..");
            x.comment(4, 6);
            Check.insert(x, 5, "+");
            Check.insert(x, 4, "<");
            Check.insert(x, 8, ">");
            Check.due("the range", Check.range(x, 0), "5-8");
            Check.due("not by itself", Check.quotes(x, 0), "..ab|cd|ef..");
            Check.due("distance", x.distance(0), 1);
            Check.due("quoteAnew", x.quoteAnew(0), 3);
            Check.due("quotes", Check.quotes(x, 0), "..ab<|c+d|>ef..");
            Check.due("distance then", x.distance(0), 0);
            Check.due("range, state and weight stay", Check.range(x, 0) + " " + x.weight(0), "5-8 1");
        });
        test("9 quoteAnew: a shorter quote", () -> {
            AnchoredComments x = three();
            x.delete(6, 14);
            Check.due("quoteAnew", x.quoteAnew(1), 2);
            Check.due("quotes", Check.quotes(x, 1), "abcde|fu|vwxyz");
            Check.due("behind it", x.quoted(1, 1, 2), NONE);
        });
        test("9 quoteAnew: only this one", () -> {
            AnchoredComments x = three();
            x.delete(3, 1);
            Check.due("quoteAnew", x.quoteAnew(0), 3);
            Check.due("quotes of 0", Check.quotes(x, 0), "|abc|efghij");
            Check.due("quotes of 1", Check.quotes(x, 1), "abcde|fghijklmnopqrstu|vwxyz");
        });
        answers("9 quoteAnew: attached again", after(CommentsTest::three, x -> {
            Check.load(x, "..abc..");
            x.attach(0);
        }), x -> x.quoteAnew(0), 3);
    }

    private static void list() {
        test("16 comments, 17 commentAt: in ascending order of the numbers", () -> {
            AnchoredComments x = Check.with("abcdef");
            for (int i = 0; i < 5; i++) {
                Check.due("comments", x.comments(), i);
                x.comment(5 - i, 6 - i);
            }
            x.remove(2);
            x.remove(0);
            int[] due = {1, 3, 4, BAD_INDEX};
            for (int index = 0; index < due.length; index++) {
                Check.due("commentAt " + index, x.commentAt(index), due[index]);
            }
            Check.due("comments", x.comments(), 3);
        });
        test("16 comments: after each call that changes them", () -> {
            AnchoredComments x = three();
            x.save(0);
            x.comment(0, 3);
            Check.due("comment", x.comments(), 4);
            x.merge();
            Check.due("merge", x.comments(), 3);
            x.remove(1);
            Check.due("remove", x.comments(), 2);
            x.undo();
            x.undo();
            Check.due("undo", x.comments(), 4);
            x.restore(0);
            Check.due("restore", x.comments(), 3);
        });
        test("18 state: after each call that changes it", () -> {
            AnchoredComments x = Check.with("ab");
            x.comment(0, 1);
            Check.due("comment", x.state(0), ATTACHED);
            x.save(0);
            x.delete(0, 1);
            Check.due("delete", x.state(0), ORPHAN);
            x.undo();
            Check.due("undo", x.state(0), ATTACHED);
            x.load();
            Check.due("load", x.state(0), ORPHAN);
            x.attach(0);
            Check.due("attach", x.state(0), ATTACHED);
            x.undo();
            x.attachAll();
            Check.due("attachAll", x.state(0), ATTACHED);
            x.undo();
            Check.due("undo again", x.state(0), ORPHAN);
            x.restore(0);
            Check.due("restore", x.state(0), ATTACHED);
        });
        test("20 weight: it stays, whatever becomes of the range and the quote", () -> {
            AnchoredComments x = ofBounds(1, 3, 1, 3);
            x.merge();
            Check.insert(x, 2, "zz");
            x.quoteAnew(0);
            Check.load(x, "abzzc");
            Check.due("an ORPHAN", x.weight(0), 2);
            x.attach(0);
            Check.due("attached", x.weight(0), 2);
        });
        test("16 comments, 18 state, 19 range: ORPHANs are comments, too", () -> {
            AnchoredComments x = three();
            x.delete(25, 1);
            Check.due("comments", x.comments(), 3);
            Check.due("commentAt", x.commentAt(2), 2);
            Check.due("states", x.state(0) * 100 + x.state(1) * 10 + x.state(2), 110);
            Check.due("start", x.range(2, false), 25);
            Check.due("end", x.range(2, true), 25);
            Check.due("weight", x.weight(2), 1);
            Check.due("quote", x.quoted(2, 1, 0), 'z');
        });
    }

    /** Comments of "abcdef" with these bounds. */
    private static AnchoredComments ofBounds(int... bounds) {
        AnchoredComments x = Check.with("abcdef");
        for (int i = 0; i < bounds.length; i += 2) {
            x.comment(bounds[i], bounds[i + 1]);
        }
        return x;
    }

    private static void merged(String name, AnchoredComments x, int due, String then) {
        test("12 merge: " + name, () -> {
            Check.due("it", x.merge(), due);
            StringBuilder text = new StringBuilder();
            for (int i = 0; i < x.comments(); i++) {
                int comment = x.commentAt(i);
                text.append(i == 0 ? "" : " ").append(comment).append(':').append(Check.range(x, comment));
                text.append('*').append(x.weight(comment));
            }
            Check.due("the comments", text.toString(), then);
        });
    }

    private static void merge() {
        merged("two of the same range", ofBounds(1, 3, 1, 3), 1, "0:1-3*2");
        merged("the same start with another end stays", ofBounds(1, 3, 1, 4, 1, 3), 1, "0:1-3*2 1:1-4*1");
        merged("the same end with another start stays", ofBounds(1, 3, 2, 3, 1, 3), 1, "0:1-3*2 1:2-3*1");
        merged("of each range the lowest number", ofBounds(3, 4, 0, 1, 0, 1, 3, 4, 0, 1), 3, "0:3-4*2 1:0-1*3");
        merged("the first and the last", ofBounds(0, 1, 2, 3, 0, 1), 1, "0:0-1*2 1:2-3*1");
        merged("ten in groups", ofBounds(3, 4, 1, 2, 3, 4, 0, 1, 1, 2, 3, 4, 1, 2, 3, 4, 5, 6, 3, 4), 6,
            "0:3-4*5 1:1-2*3 3:0-1*1 8:5-6*1");
        AnchoredComments orphan = ofBounds(1, 3);
        orphan.load();
        orphan.comment(1, 3);
        orphan.comment(1, 3);
        merged("an ORPHAN of the same range stays", orphan, 1, "0:1-3?*1 1:1-3*2");
        AnchoredComments again = ofBounds(0, 1, 0, 1);
        again.merge();
        again.comment(0, 1);
        merged("once more", again, 1, "0:0-1*3");
        AnchoredComments moved = ofBounds(0, 1, 0, 1, 0, 2, 0, 2, 0, 2);
        moved.merge();
        moved.delete(1, 1);
        merged("the weights of merged ones are added", moved, 1, "0:0-1*5");
    }

    private static void mergedQuotesAndWeights() {
        test("12 merge: the quote of the one that stays", () -> {
            AnchoredComments x = ofBounds(1, 2, 1, 3);
            x.delete(2, 1);
            Check.due("merge", x.merge(), 1);
            Check.due("quotes", Check.quotes(x, 0), "a|b|cdef");
        });
        test("12 merge: undo() brings the comments and the weights back", () -> {
            AnchoredComments x = ofBounds(1, 2, 1, 2);
            String before = Check.all(x);
            x.merge();
            x.undo();
            Check.due("all", Check.all(x), before);
        });
    }
}
