/** Empty: the document, the buffer, the comments, quotes' parts, ranges, the history, the slots. */
public final class EmptyTest extends Cases {
    public static void main(String[] args) {
        newObject();
        buffer();
        load();
        insert();
        delete();
        comment();
        comments();
        attach();
        merge();
        history();
        prefixAndSuffix();
        ranges();
        scores();
        covering();
        slots();
        checksum();
        Check.finish();
    }

    private static void newObject() {
        answers("1 a new object: an empty document", Scenes::fresh, AnchoredComments::length, 0);
        answers("1 a new object: an empty buffer", Scenes::fresh, AnchoredComments::clearBuffer, 0);
        answers("1 a new object: no comments", Scenes::fresh, AnchoredComments::comments, 0);
        answers("1 a new object: the threshold 60", Scenes::fresh, x -> x.setThreshold(0), 60);
        answers("1 a new object: an empty history", Scenes::fresh, AnchoredComments::undo, NOT_POSSIBLE);
        answers("1 a new object: an empty slot 0", Scenes::fresh, x -> x.restore(0), NOT_POSSIBLE);
        answers("1 a new object: an empty slot 1", Scenes::fresh, x -> x.restore(1), NOT_POSSIBLE);
        answers("1 a new object: the first number is 0", document("a"), x -> x.comment(0, 1), 0);
        test("1 a new object: it shares nothing with another one", () -> {
            Scenes.used();
            Scenes.full();
            Check.due("what calls show", Shown.past(new AnchoredComments()), Shown.past(Scenes.fresh()));
            AnchoredComments x = new AnchoredComments();
            Scenes.used();
            Check.due("length", x.length(), 0);
            Check.due("buffer", x.clearBuffer(), 0);
            Check.due("comments", x.comments(), 0);
            Check.due("threshold", x.setThreshold(0), 60);
            Check.due("history", x.undo(), NOT_POSSIBLE);
            Check.due("slot", x.restore(0), NOT_POSSIBLE);
        });
    }

    private static void buffer() {
        answers("2 type: into an empty buffer", Scenes::fresh, x -> x.type('a'), 1);
        answers("2 type: into a cleared buffer", after(Scenes::small, AnchoredComments::clearBuffer), x -> x.type('a'), 1);
        refused("3 clearBuffer: an empty buffer", Scenes::fresh, AnchoredComments::clearBuffer, 0);
        refused("3 clearBuffer: a cleared buffer", after(Scenes::used, AnchoredComments::clearBuffer),
            AnchoredComments::clearBuffer, 0);
        answers("3 clearBuffer: a buffer of 1 letter", after(Scenes::fresh, x -> x.type('a')),
            AnchoredComments::clearBuffer, 1);
        test("3 clearBuffer: nothing of the old letters comes back", () -> {
            AnchoredComments x = Scenes.small();
            x.clearBuffer();
            x.type('Z');
            Check.due("insert", x.insert(0), 9);
            Check.due("the document", Check.document(x), "Zabcdefgh");
        });
    }

    private static void load() {
        answers("4 load: nothing in place of nothing", Scenes::fresh, AnchoredComments::load, 0);
        answers("4 load: letters in place of nothing", after(Scenes::fresh, x -> x.type('a')), AnchoredComments::load, 0);
        test("4 load: nothing in place of letters", () -> {
            AnchoredComments x = Scenes.small();
            x.clearBuffer();
            Check.due("load", x.load(), 8);
            Check.due("all", Check.all(x), " #0 0-0? |ab|cdefgh*1 #1 0-0? abc|de|fgh*1 #3 0-0? abcdef|gh|*1");
        });
        answers("4 load: nothing in place of nothing is recorded", after(Scenes::fresh, AnchoredComments::load),
            AnchoredComments::undo, 0);
    }

    private static void insert() {
        answers("5 insert: nothing into nothing", Scenes::fresh, x -> x.insert(0), 0);
        answers("5 insert: letters into an empty document", after(Scenes::fresh, x -> x.type('a')), x -> x.insert(0), 1);
        refused("5 insert: the position 1 of an empty document", after(Scenes::fresh, x -> x.type('a')),
            x -> x.insert(1), BAD_INDEX);
        refused("5 insert: the position -1 of an empty document", Scenes::fresh, x -> x.insert(-1), BAD_INDEX);
        for (int position = 0; position <= 8; position++) {
            int there = position;
            test("5 insert: nothing at " + there + " moves no range", () -> {
                AnchoredComments x = Scenes.small();
                String before = Check.all(x);
                x.clearBuffer();
                Check.due("insert", x.insert(there), 8);
                Check.due("all", Check.all(x), before);
            });
        }
        answers("5 insert: nothing is recorded", after(Scenes::fresh, x -> x.insert(0)), AnchoredComments::undo, 0);
    }

    private static void delete() {
        answers("6 delete: nothing of nothing", Scenes::fresh, x -> x.delete(0, 0), 0);
        refused("6 delete: a letter of an empty document", Scenes::fresh, x -> x.delete(0, 1), BAD_VALUE);
        refused("6 delete: the position 1 of an empty document", Scenes::fresh, x -> x.delete(1, 0), BAD_INDEX);
        refused("6 delete: the position -1 of an empty document", Scenes::fresh, x -> x.delete(-1, 0), BAD_INDEX);
        for (int position = 0; position <= 8; position++) {
            int there = position;
            test("6 delete: 0 letters at " + there + " move no range", () -> {
                AnchoredComments x = Scenes.small();
                String before = Check.all(x);
                Check.due("delete", x.delete(there, 0), 0);
                Check.due("all", Check.all(x), before);
            });
        }
        answers("6 delete: nothing is recorded", after(Scenes::fresh, x -> x.delete(0, 0)), AnchoredComments::undo, 0);
        answers("6 delete: no comments to become ORPHANs", document("abc"), x -> x.delete(0, 3), 0);
        answers("6 delete: ORPHANs with letters that lose them are not counted", Scenes::orphaned, x -> x.delete(0, 8), 0);
        answers("6 delete: ORPHANs with an empty range are not counted again",
            after(Scenes::small, x -> x.delete(0, 2)), x -> x.delete(0, 6), 2);
    }

    private static void comment() {
        refused("7 comment: no letters of an empty document", Scenes::fresh, x -> x.comment(0, 0), BAD_VALUE);
        refused("7 comment: a letter of an empty document", Scenes::fresh, x -> x.comment(0, 1), BAD_VALUE);
        refused("7 comment: the position 1 of an empty document", Scenes::fresh, x -> x.comment(1, 2), BAD_INDEX);
        refused("7 comment: no letters at the end", Scenes::small, x -> x.comment(8, 8), BAD_VALUE);
    }

    private static void comments() {
        answers("8 remove: the last comment leaves 0", after(Scenes::small, x -> {
            x.remove(0);
            x.remove(3);
        }), x -> x.remove(1), 0);
        answers("16 comments: none after the last was removed", after(document("a"), x -> x.remove(x.comment(0, 1))),
            AnchoredComments::comments, 0);
        refused("17 commentAt: no comments", document("abc"), x -> x.commentAt(0), BAD_INDEX);
        answers("7 comment: the first number after all were removed is a new one",
            after(document("a"), x -> x.remove(x.comment(0, 1))), x -> x.comment(0, 1), 1);
        refused("15 letter: an empty document", Scenes::fresh, x -> x.letter(0), BAD_INDEX);
        answers("14 length: a document whose letters were all deleted", after(Scenes::small, x -> x.delete(0, 8)),
            AnchoredComments::length, 0);
    }

    private static void attach() {
        refused("10 attach: an empty document has no candidates", after(Scenes::orphaned, x -> {
            x.clearBuffer();
            x.load();
            x.setThreshold(0);
        }), x -> x.attach(0), NONE);
        refused("11 attachAll: no comments", document("abc"), AnchoredComments::attachAll, NONE);
        refused("11 attachAll: comments, but no ORPHANs", Scenes::small, AnchoredComments::attachAll, NONE);
        test("11 attachAll: ORPHANs, but no candidates", () -> {
            AnchoredComments x = after(Scenes::small, y -> y.delete(0, 8)).get();
            x.setThreshold(0);
            String before = Check.all(x);
            Check.due("attachAll", x.attachAll(), 0);
            Check.due("all", Check.all(x), before);
        });
        answers("11 attachAll: 0 attached is recorded", after(Scenes::small, x -> {
            x.restore(0);
            x.delete(0, 8);
            x.attachAll();
        }), AnchoredComments::undo, 1);
    }

    private static void merge() {
        refused("12 merge: no comments", document("abc"), AnchoredComments::merge, NONE);
        refused("12 merge: a single comment", after(document("abc"), x -> x.comment(0, 1)), AnchoredComments::merge, NONE);
        refused("12 merge: no two of the same range", Scenes::small, AnchoredComments::merge, NONE);
        refused("12 merge: ORPHANs with the same empty range", after(Scenes::small, x -> x.delete(0, 8)),
            AnchoredComments::merge, NONE);
    }

    private static void history() {
        refused("13 undo: an empty history", Scenes::fresh, AnchoredComments::undo, NOT_POSSIBLE);
        refused("13 undo: a history that restore() has emptied", after(Scenes::used, x -> x.restore(1)),
            AnchoredComments::undo, NOT_POSSIBLE);
        refused("13 undo: a history that undo() has emptied", after(document("abc"), AnchoredComments::undo),
            AnchoredComments::undo, NOT_POSSIBLE);
        answers("13 undo: the last state leaves 0", document("abc"), AnchoredComments::undo, 0);
        answers("13 undo: back to the empty document", after(document("abc"), AnchoredComments::undo),
            AnchoredComments::length, 0);
        answers("13 undo: back to no comments", after(document("abc"), x -> {
            x.comment(0, 1);
            x.undo();
        }), AnchoredComments::comments, 0);
    }

    private static void prefixAndSuffix() {
        refused("21 quoted: an empty prefix has no letter", Scenes::small, x -> x.quoted(0, 0, 0), NONE);
        refused("21 quoted: an empty suffix has no letter", Scenes::small, x -> x.quoted(3, 2, 0), NONE);
        answers("21 quoted: a quote of 1 letter has it", after(document("abc"), x -> x.comment(1, 2)),
            x -> x.quoted(0, 1, 0), 'b');
        refused("21 quoted: a quote of 1 letter has no second", after(document("abc"), x -> x.comment(1, 2)),
            x -> x.quoted(0, 1, 1), NONE);
        test("9 quoteAnew: the prefix and the suffix become empty", () -> {
            AnchoredComments x = Scenes.small();
            x.delete(5, 3);
            x.delete(0, 3);
            Check.due("quoteAnew", x.quoteAnew(1), 2);
            Check.due("what it quotes", Check.quotes(x, 1), "|de|");
        });
        test("9 quoteAnew: an empty prefix and an empty suffix get letters", () -> {
            AnchoredComments x = Check.with("ab");
            x.comment(0, 2);
            Check.due("what it quotes", Check.quotes(x, 0), "|ab|");
            Check.insert(x, 2, "ef");
            Check.insert(x, 0, "cd");
            Check.due("quoteAnew", x.quoteAnew(0), 2);
            Check.due("what it quotes then", Check.quotes(x, 0), "cd|ab|ef");
        });
    }

    private static void ranges() {
        test("19 range: the empty range of an ORPHAN tells where it was", () -> {
            AnchoredComments x = Scenes.small();
            x.delete(2, 4);
            Check.due("range", Check.range(x, 1), "2-2?");
        });
        answers("25 overlap: an empty range and itself", after(Scenes::small, x -> x.delete(2, 4)), x -> x.overlap(1, 1), 0);
        answers("25 overlap: an empty range inside of another one", after(document("abcdef"), x -> {
            x.comment(0, 6);
            x.comment(2, 3);
            x.delete(2, 1);
        }), x -> x.overlap(1, 0), 0);
        answers("25 overlap: two empty ranges at the same place", after(Scenes::small, x -> x.delete(0, 8)),
            x -> x.overlap(0, 1), 0);
        refused("9 quoteAnew: an ORPHAN with an empty range", after(Scenes::small, x -> x.delete(2, 4)),
            x -> x.quoteAnew(1), NOT_POSSIBLE);
        refused("22 distance: an ORPHAN with an empty range", after(Scenes::small, x -> x.delete(2, 4)),
            x -> x.distance(1), NOT_POSSIBLE);
    }

    private static void scores() {
        refused("23 score: no letters of an empty document", after(Scenes::small, x -> x.delete(0, 8)),
            x -> x.score(0, 0, 0), BAD_VALUE);
        refused("23 score: a letter of an empty document", after(Scenes::small, x -> x.delete(0, 8)),
            x -> x.score(0, 0, 1), BAD_VALUE);
        refused("23 score: the position 1 of an empty document", after(Scenes::small, x -> x.delete(0, 8)),
            x -> x.score(0, 1, 2), BAD_INDEX);
        for (int what = 0; what <= 2; what++) {
            int asked = what;
            refused("24 best: an empty document has no candidates, what = " + what,
                after(Scenes::small, x -> x.delete(0, 8)), x -> x.best(0, asked), NONE);
        }
        answers("23 score: an empty prefix is like nothing", after(document("ab"), x -> {
            x.comment(0, 2);
            Check.load(x, "ababab");
        }), x -> x.score(0, 2, 4), 60);
        answers("23 score: nothing before the range is like no prefix", after(document("xab"), x -> {
            x.comment(1, 3);
            Check.load(x, "ab");
        }), x -> x.score(0, 0, 2), 60);
        answers("23 score: nothing behind the range is like no suffix", after(document("abx"), x -> {
            x.comment(0, 2);
            Check.load(x, "ab");
        }), x -> x.score(0, 0, 2), 60);
    }

    private static void covering() {
        refused("26 covering: an empty document", Scenes::fresh, x -> x.covering(0, 0), BAD_INDEX);
        refused("26 covering: no comments", document("abc"), x -> x.covering(0, 0), NONE);
        refused("26 covering: no comment has this letter", Scenes::small, x -> x.covering(5, 0), NONE);
        refused("26 covering: only ORPHANs have this letter", Scenes::orphaned, x -> x.covering(0, 0), NONE);
    }

    private static void slots() {
        refused("29 restore: nothing has been saved in slot 0", Scenes::fresh, x -> x.restore(0), NOT_POSSIBLE);
        refused("29 restore: nothing has been saved in slot 1", Scenes::fresh, x -> x.restore(1), NOT_POSSIBLE);
        refused("29 restore: only the slot 0 is in use", Scenes::full, x -> x.restore(1), NOT_POSSIBLE);
        refused("29 restore: only the slot 1 is in use", after(document("abc"), x -> x.save(1)),
            x -> x.restore(0), NOT_POSSIBLE);
        answers("28 save: no comments", Scenes::fresh, x -> x.save(0), 0);
        test("29 restore: an empty workbench comes back", () -> {
            AnchoredComments x = new AnchoredComments();
            x.save(1);
            Check.load(x, "abc");
            x.comment(0, 1);
            x.setThreshold(5);
            Check.due("restore", x.restore(1), 0);
            Check.due("length", x.length(), 0);
            Check.due("comments", x.comments(), 0);
            Check.due("threshold", x.setThreshold(0), 60);
            x.load();
            Check.due("next number", x.comment(0, 1), 0);
        });
    }

    private static void checksum() {
        test("30 checksum: an empty document without comments", () ->
            Check.due("checksum", new AnchoredComments().checksum(), 31L * (31 * 61)));
        test("30 checksum: an empty document, a comment without candidates", () -> {
            AnchoredComments x = Check.with("b");
            x.comment(0, 1);
            x.delete(0, 1);
            long sum = 61;
            int[] values = {0, 1, 0, ORPHAN, 0, 0, 1, 'b', NONE, NONE, NONE};
            for (int value : values) {
                sum = 31 * sum + value;
            }
            Check.due("checksum", x.checksum(), sum);
        });
    }
}
