/** Promises 7 to 9, 12, 16 to 21 and 25: what is made of comments and told of them. */
public final class CommentsTest {
    private static final int MIN = Integer.MIN_VALUE;
    private static final int MAX = Integer.MAX_VALUE;
    private static final String LONG = "abcdefghijklmnopqrstuvwxyz";

    public static void main(String[] args) {
        comment();
        room();
        quotes();
        remove();
        quoteAnew();
        merge();
        mergeGroups();
        list();
        noSuchComment();
        quoted();
        overlap();
        Check.finish();
    }

    private static void comment() {
        AnchoredComments x = Check.with(LONG);
        int[] wrongStarts = {-1, 27, MIN, MAX};
        for (int from : wrongStarts) {
            Check.due("7 from " + from, x.comment(from, from + 1), AnchoredComments.BAD_INDEX);
            Check.due("7 both " + from, x.comment(from, 5), AnchoredComments.BAD_INDEX);
        }
        int[] wrongEnds = {5, 4, 22, 27, -1, MIN, MAX};
        for (int to : wrongEnds) {
            Check.due("7 to " + to, x.comment(5, to), AnchoredComments.BAD_VALUE);
        }
        Check.due("7 behind the end", x.comment(20, 27), AnchoredComments.BAD_VALUE);
        Check.due("7 at the end", x.comment(26, 27), AnchoredComments.BAD_VALUE);
        Check.due("7 nothing recorded", Check.states(x), 1);
        Check.load(x, LONG);
        Check.due("7 one letter", x.comment(0, 1), 0);
        Check.due("7 sixteen letters", x.comment(5, 21), 1);
        Check.due("7 up to the end", x.comment(25, 26), 2);
        Check.due("7 the same range", x.comment(25, 26), 3);
        Check.due("7 all", Check.all(x), LONG + " #0 0-1 |a|bcdefg*1 #1 5-21 abcde|fghijklmnopqrstu|vwxyz*1"
            + " #2 25-26 tuvwxy|z|*1 #3 25-26 tuvwxy|z|*1");
        Check.due("7 recorded", Check.states(x), 5);
        Check.due("7 empty document", new AnchoredComments().comment(0, 1), AnchoredComments.BAD_VALUE);
    }

    private static void room() {
        AnchoredComments x = Check.with(LONG);
        for (int i = 0; i < 10; i++) {
            Check.due("7 number " + i, x.comment(i, i + 1), i);
        }
        Check.due("7 full", x.comment(0, 1), AnchoredComments.FULL);
        Check.due("7 full, wrong end", x.comment(0, 17), AnchoredComments.BAD_VALUE);
        Check.due("7 full, wrong start", x.comment(-1, 1), AnchoredComments.BAD_INDEX);
        x.remove(4);
        Check.due("7 no number twice", x.comment(4, 5), 10);
        Check.due("7 full again", x.comment(0, 1), AnchoredComments.FULL);
        Check.due("7 undo", x.undo(), 5);
        Check.due("7 the number again", x.comment(7, 9), 10);
        Check.due("7 in order", x.commentAt(9), 10);
        Check.due("7 its range", Check.range(x, 10), "7-9");
    }

    private static void quotes() {
        AnchoredComments x = Check.with("0123456789");
        x.comment(6, 7);
        x.comment(7, 8);
        x.comment(3, 4);
        x.comment(2, 4);
        Check.due("7 six before", Check.quotes(x, 0), "012345|6|789");
        Check.due("7 more before", Check.quotes(x, 1), "123456|7|89");
        Check.due("7 six behind", Check.quotes(x, 2), "012|3|456789");
        Check.due("7 two", Check.quotes(x, 3), "01|23|456789");
    }

    private static void remove() {
        AnchoredComments x = Check.with(LONG);
        x.comment(0, 3);
        x.comment(3, 6);
        x.comment(6, 9);
        Check.due("8 remove 3", x.remove(3), AnchoredComments.BAD_INDEX);
        Check.due("8 remove -1", x.remove(-1), AnchoredComments.BAD_INDEX);
        Check.due("8 remove 1", x.remove(1), 2);
        Check.due("8 twice", x.remove(1), AnchoredComments.BAD_INDEX);
        Check.due("8 those left", Check.all(x), LONG + " #0 0-3 |abc|defghi*1 #2 6-9 abcdef|ghi|jklmno*1");
        Check.due("8 remove 0", x.remove(0), 1);
        x.load();
        Check.due("8 an orphan", x.remove(2), 0);
        Check.due("8 recorded", x.undo(), 5);
        Check.due("8 brought back", Check.range(x, 2), "6-9?");
        Check.due("8 the next number", x.comment(0, 1), 3);
    }

    private static void quoteAnew() {
        AnchoredComments x = Check.with(LONG);
        x.comment(3, 6);
        Check.due("9 number", x.quoteAnew(1), AnchoredComments.BAD_INDEX);
        Check.insert(x, 4, "0123456789012");
        Check.due("9 range", Check.range(x, 0), "3-19");
        Check.due("9 not by itself", Check.quotes(x, 0), "abc|def|ghijkl");
        Check.due("9 sixteen", x.quoteAnew(0), 16);
        Check.due("9 quotes", Check.quotes(x, 0), "abc|d0123456789012ef|ghijkl");
        Check.insert(x, 4, "x");
        Check.due("9 seventeen", x.quoteAnew(0), AnchoredComments.NOT_POSSIBLE);
        Check.due("9 quotes stay", Check.quotes(x, 0), "abc|d0123456789012ef|ghijkl");
        x.delete(5, 14);
        x.delete(8, x.length() - 8);
        Check.due("9 three", x.quoteAnew(0), 3);
        Check.due("9 quotes then", Check.quotes(x, 0), "abc|dxf|gh");
        Check.due("9 recorded", x.undo(), 5);
        Check.due("9 undone", Check.quotes(x, 0), "abc|d0123456789012ef|ghijkl");
        x.delete(3, 3);
        Check.due("9 orphan", x.quoteAnew(0), AnchoredComments.NOT_POSSIBLE);
        AnchoredComments y = Check.with("abc");
        y.comment(0, 3);
        y.load();
        Check.due("9 orphan with a range", y.quoteAnew(0), AnchoredComments.NOT_POSSIBLE);
    }

    private static void merge() {
        AnchoredComments x = Check.with("abcdef");
        x.comment(0, 2);
        x.comment(1, 3);
        x.comment(0, 3);
        x.comment(2, 3);
        Check.due("12 none alike", x.merge(), AnchoredComments.NONE);
        x.delete(0, 1);
        Check.due("12 ranges", Check.all(x), "bcdef #0 0-1 |ab|cdef*1 #1 0-2 a|bc|def*1 #2 0-2 |abc|def*1 #3 1-2 ab|c|def*1");
        Check.due("12 merge", x.merge(), 1);
        Check.due("12 the lower one stays", Check.all(x), "bcdef #0 0-1 |ab|cdef*1 #1 0-2 a|bc|def*2 #3 1-2 ab|c|def*1");
        Check.due("12 none again", x.merge(), AnchoredComments.NONE);
        x.delete(0, 1);
        Check.due("12 orphans do not merge", x.merge(), 1);
        Check.due("12 the weights are added", Check.all(x), "cdef #0 0-0? |ab|cdef*1 #1 0-1 a|bc|def*3");
        x.load();
        x.comment(0, 1);
        Check.due("12 an orphan of the same range", x.merge(), AnchoredComments.NONE);
        Check.due("12 recorded, NONE not", x.undo(), 5);
    }

    private static void mergeGroups() {
        AnchoredComments x = Check.with("abcdef");
        int[] starts = {3, 1, 3, 0, 1, 3, 1, 3, 5, 3};
        for (int start : starts) {
            x.comment(start, start + 1);
        }
        Check.due("12 groups", x.merge(), 6);
        Check.due("12 groups merged", Check.all(x), "abcdef #0 3-4 abc|d|ef*5 #1 1-2 a|b|cdef*3"
            + " #3 0-1 |a|bcdef*1 #8 5-6 abcde|f|*1");
        x.undo();
        Check.due("12 undone", x.comments(), 10);
        x.load();
        Check.due("12 all orphans", x.merge(), AnchoredComments.NONE);
    }

    private static void list() {
        AnchoredComments x = Check.with("abcdef");
        for (int i = 0; i < 4; i++) {
            Check.due("16 comments", x.comments(), i);
            x.comment(5 - i, 6 - i);
        }
        x.remove(1);
        Check.due("16 comments", x.comments(), 3);
        Check.due("17 commentAt 0", x.commentAt(0), 0);
        Check.due("17 commentAt 1", x.commentAt(1), 2);
        Check.due("17 commentAt 2", x.commentAt(2), 3);
        int[] wrong = {-1, 3, 10, 11, MIN, MAX};
        for (int index : wrong) {
            Check.due("17 commentAt " + index, x.commentAt(index), AnchoredComments.BAD_INDEX);
        }
        Check.due("18 state", x.state(0), AnchoredComments.ATTACHED);
        Check.due("19 start", x.range(2, false), 3);
        Check.due("19 end", x.range(2, true), 4);
        Check.due("20 weight", x.weight(3), 1);
        x.load();
        Check.due("18 state then", x.state(0), AnchoredComments.ORPHAN);
        Check.due("19 an orphan's start", x.range(2, false), 3);
        Check.due("16 orphans too", x.comments(), 3);
    }

    private static void noSuchComment() {
        AnchoredComments x = Check.with("abcdef");
        x.comment(0, 2);
        x.comment(1, 3);
        x.comment(2, 4);
        x.remove(1);
        int[] wrong = {-1, 1, 3, 10, MIN, MAX};
        int bad = AnchoredComments.BAD_INDEX;
        for (int comment : wrong) {
            Check.due("8 remove " + comment, x.remove(comment), bad);
            Check.due("9 quoteAnew " + comment, x.quoteAnew(comment), bad);
            Check.due("10 attach " + comment, x.attach(comment), bad);
            Check.due("18 state " + comment, x.state(comment), bad);
            Check.due("19 start " + comment, x.range(comment, false), bad);
            Check.due("19 end " + comment, x.range(comment, true), bad);
            Check.due("20 weight " + comment, x.weight(comment), bad);
            Check.due("21 quoted " + comment, x.quoted(comment, 3, 0), bad);
            Check.due("22 distance " + comment, x.distance(comment), bad);
            Check.due("23 score " + comment, x.score(comment, 0, 99), bad);
            Check.due("24 best " + comment, x.best(comment, 3), bad);
            Check.due("25 overlap " + comment, x.overlap(comment, 0), bad);
            Check.due("25 overlap with " + comment, x.overlap(0, comment), bad);
            Check.due("25 overlap with itself " + comment, x.overlap(comment, comment), bad);
        }
        Check.due("nothing recorded", Check.states(x), 5);
    }

    private static void quoted() {
        AnchoredComments x = Check.with("abcdefghijk");
        x.comment(4, 6);
        Check.due("21 quotes", Check.quotes(x, 0), "abcd|ef|ghijk");
        Check.due("21 prefix 0", x.quoted(0, 0, 0), 'a');
        Check.due("21 quote 1", x.quoted(0, 1, 1), 'f');
        Check.due("21 suffix 4", x.quoted(0, 2, 4), 'k');
        int[] wrongParts = {-1, 3, MIN, MAX};
        for (int part : wrongParts) {
            Check.due("21 part " + part, x.quoted(0, part, 0), AnchoredComments.BAD_VALUE);
            Check.due("21 part and index " + part, x.quoted(0, part, -1), AnchoredComments.BAD_VALUE);
        }
        int[] lengths = {4, 2, 5};
        for (int part = 0; part <= 2; part++) {
            int[] wrong = {-1, lengths[part], 6, 16, 17, MIN, MAX};
            for (int index : wrong) {
                Check.due("21 index " + index, x.quoted(0, part, index), AnchoredComments.NONE);
            }
        }
        Check.load(x, "z");
        Check.due("21 stays", Check.quotes(x, 0), "abcd|ef|ghijk");
        AnchoredComments y = Check.with("abc");
        y.comment(0, 3);
        Check.due("21 no prefix", y.quoted(0, 0, 0), AnchoredComments.NONE);
        Check.due("21 no suffix", y.quoted(0, 2, 0), AnchoredComments.NONE);
    }

    private static void overlap() {
        AnchoredComments x = Check.with("abcdefghijk");
        x.comment(2, 6);
        x.comment(4, 9);
        x.comment(6, 8);
        x.comment(0, 1);
        Check.due("25 part", x.overlap(0, 1), 2);
        Check.due("25 the other way", x.overlap(1, 0), 2);
        Check.due("25 neighbours", x.overlap(0, 2), 0);
        Check.due("25 far", x.overlap(3, 2), 0);
        Check.due("25 inside", x.overlap(1, 2), 2);
        Check.due("25 itself", x.overlap(1, 1), 5);
        Check.load(x, "abcdefg");
        Check.due("25 orphans", x.overlap(0, 1), 2);
        Check.due("25 orphans cut", x.overlap(2, 1), 1);
        x.delete(3, 4);
        Check.due("25 empty", x.overlap(2, 2), 0);
        Check.due("25 empty and other", x.overlap(0, 2), 0);
        x.comment(0, 3);
        Check.due("25 orphan and attached", x.overlap(0, 4), 1);
    }
}
