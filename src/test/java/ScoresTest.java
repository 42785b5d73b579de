/** Promises 22 to 24 and 26: distance, score, best, covering. */
public final class ScoresTest {
    private static final int MIN = Integer.MIN_VALUE;
    private static final int MAX = Integer.MAX_VALUE;

    public static void main(String[] args) {
        distance();
        scoreErrors();
        scoreParts();
        scoreFar();
        best();
        bestOrder();
        bestLengths();
        covering();
        coveringOrphans();
        Check.finish();
    }

    private static void distance() {
        String[][] pairs = {
            {"kitten", "sitting", "3"}, {"abc", "abc", "0"}, {"abc", "xyz", "3"}, {"abc", "c", "2"}, {"ab", "xxxxb", "4"},
            {"flaw", "lawn", "2"}, {"abcdefghijklmnop", "bcdefghijklmnopq", "2"}, {"aaaa", "aa", "2"}, {"ab", "ba", "2"},
            {"intention", "execution", "5"}, {"abcdefghijklmnop", "a", "15"}, {"az", "bcdefghijklmnopqrstuvwxyz", "24"},
        };
        for (String[] pair : pairs) {
            AnchoredComments x = Check.with("(" + pair[0] + ")");
            x.comment(1, 1 + pair[0].length());
            // the new letters go before the last one of the quote's own, which are deleted then
            Check.insert(x, pair[0].length(), pair[1]);
            x.delete(1, pair[0].length() - 1);
            x.delete(1 + pair[1].length(), 1);
            Check.due("22 the range", Check.document(x), "(" + pair[1] + ")");
            Check.due("22 distance of " + pair[0] + " and " + pair[1], x.distance(0), Integer.parseInt(pair[2]));
        }
        AnchoredComments x = Check.full("0123456789012345678901234567890123456789");
        x.delete(0, 119);
        x.comment(0, 1);
        Check.insert(x, 0, "a");
        Check.due("22 moved", x.distance(0), 0);
        x.delete(1, 1);
        Check.due("22 orphan", x.distance(0), AnchoredComments.NOT_POSSIBLE);
        AnchoredComments y = Check.with("ab");
        y.comment(0, 2);
        Check.insert(y, 1, "0123456789012345678901234567890123456789");
        y.insert(1);
        Check.insert(y, 1, "01234567890123456789012345678901234567");
        Check.due("22 a range of 120", Check.range(y, 0), "0-120");
        Check.due("22 distance of 118", y.distance(0), 118);
        y.load();
        Check.due("22 orphan with a range", y.distance(0), AnchoredComments.NOT_POSSIBLE);
    }

    private static void scoreErrors() {
        AnchoredComments x = Check.full("0123456789012345678901234567890123456789");
        x.comment(0, 5);
        int[] wrongStarts = {-1, 121, MIN, MAX};
        for (int from : wrongStarts) {
            Check.due("23 from " + from, x.score(0, from, from + 1), AnchoredComments.BAD_INDEX);
            Check.due("23 both " + from, x.score(0, from, 200), AnchoredComments.BAD_INDEX);
        }
        int[] wrongEnds = {50, 49, 81, 121, -1, MIN, MAX};
        for (int to : wrongEnds) {
            Check.due("23 to " + to, x.score(0, 50, to), AnchoredComments.BAD_VALUE);
        }
        Check.due("23 behind the end", x.score(0, 119, 121), AnchoredComments.BAD_VALUE);
        Check.due("23 at the end", x.score(0, 120, 121), AnchoredComments.BAD_VALUE);
        Check.due("23 thirty", x.score(0, 50, 80), 60 - 250 - 10);
        Check.due("23 one", x.score(0, 51, 52), 60 - 40 - 10);
        Check.due("23 nothing recorded", Check.states(x), 4);
    }

    private static void scoreParts() {
        AnchoredComments x = Check.with("abcdefQRghijkl");
        x.comment(6, 8);
        Check.due("23 greatest", x.score(0, 6, 8), 108);
        Check.due("23 one less", x.score(0, 6, 7), 60 - 10 + 24);
        Check.due("23 one more before", x.score(0, 5, 8), 60 - 10 + 24);
        Check.due("23 one exchanged, none around", x.score(0, 7, 9), 60 - 20);
        Check.load(x, "bcdefQRgh");
        Check.due("23 five before, two behind", x.score(0, 5, 7), 60 + 20 + 8);
        Check.load(x, "xbcdefQRghxjkl");
        Check.due("23 broken off", x.score(0, 6, 8), 60 + 20 + 8);
        Check.load(x, "QR");
        Check.due("23 none around", x.score(0, 0, 2), 60);
        Check.load(x, "abcdefghijkl");
        Check.due("23 only around", x.score(0, 6, 7), 60 - 20 + 24);
        Check.load(x, "fQRg");
        Check.due("23 one each", x.score(0, 1, 3), 60 + 4 + 4);
        AnchoredComments y = Check.with("QR");
        y.comment(0, 2);
        Check.load(y, "abQRcd");
        Check.due("23 no prefix, no suffix", y.score(0, 2, 4), 60);
    }

    private static void scoreFar() {
        AnchoredComments x = Check.with("....................Q...................");
        x.comment(20, 21);
        Check.load(x, "QQQQQQQQQQQQQQQQQQQQQQQQQQQQQQQQQQQQQQQQ");
        for (int from = 0; from < 40; from++) {
            int far = Math.abs(from - 20);
            Check.due("23 " + far + " away", x.score(0, from, from + 1), 60 - far / 5);
        }
        x.setThreshold(0);
        Check.due("23 attached", x.attach(0), 16);
        Check.due("23 counted from there", x.score(0, 11, 12), 59);
        Check.due("23 and from there", x.score(0, 12, 13), 60);
    }

    private static void best() {
        AnchoredComments x = Check.with("the quick fox");
        x.comment(4, 9);
        Check.due("24 score", x.best(0, 0), 60 + 16 + 16);
        Check.due("24 start", x.best(0, 1), 4);
        Check.due("24 end", x.best(0, 2), 9);
        int[] wrong = {-1, 3, MIN, MAX};
        for (int what : wrong) {
            Check.due("24 what " + what, x.best(0, what), AnchoredComments.BAD_VALUE);
        }
        Check.load(x, "a");
        for (int what = 0; what <= 2; what++) {
            Check.due("24 no candidates " + what, x.best(0, what), AnchoredComments.NONE);
        }
        Check.due("24 no candidates, what", x.best(0, 3), AnchoredComments.BAD_VALUE);
        Check.due("24 nothing recorded", Check.states(x), 3);
        AnchoredComments y = Check.with("abcdefghijklmnop");
        y.comment(0, 16);
        Check.load(y, "ABCDEFGHIJKLM");
        Check.due("24 a negative score", y.best(0, 0), 60 - 160);
        Check.due("24 its start", y.best(0, 1), 0);
        Check.due("24 its end", y.best(0, 2), 13);
        Check.load(y, "ABCDEFGHIJKL");
        Check.due("24 twelve are no candidate", y.best(0, 0), AnchoredComments.NONE);
    }

    private static void bestOrder() {
        AnchoredComments x = Check.with("xxxxxxab");
        x.comment(6, 8);
        Check.load(x, "ab.ab..ab");
        Check.due("24 one score less for the first", x.score(0, 0, 2), 59);
        Check.due("24 of several the lowest start", x.best(0, 1), 3);
        Check.due("24 its end", x.best(0, 2), 5);
        AnchoredComments y = Check.with("abcd");
        y.comment(1, 3);
        Check.load(y, "xxxxxx");
        Check.due("24 of several the shortest", y.best(0, 2), 1);
        Check.due("24 their score", y.best(0, 0), 40);
        Check.due("24 their start", y.best(0, 1), 0);
        AnchoredComments z = Check.with("abc");
        z.comment(0, 3);
        Check.load(z, "xbc");
        Check.due("24 the shorter one has the same score", z.score(0, 1, 3), 50);
        Check.due("24 the start comes before the length", z.best(0, 1), 0);
        Check.due("24 its end then", z.best(0, 2), 3);
    }

    private static void bestLengths() {
        AnchoredComments x = Check.with("qrstuvabcdwxyz12");
        x.comment(6, 10);
        Check.load(x, "qrstuva1b2c3dwxyz12");
        Check.due("24 three more", x.best(0, 0), 60 - 30 + 48);
        Check.due("24 three more, start", x.best(0, 1), 6);
        Check.due("24 three more, end", x.best(0, 2), 13);
        Check.load(x, "qrstuva1b2c3d4wxyz12");
        Check.due("24 four more have a score", x.score(0, 6, 14), 60 - 40 + 48);
        Check.due("24 four more are no candidate", x.best(0, 0), 60 - 30 + 24);
        Check.load(x, "qrstuvcwxyz12");
        Check.due("24 three less", x.best(0, 0), 60 - 30 + 48);
        Check.due("24 three less, end", x.best(0, 2), 7);
        AnchoredComments y = Check.with("qrstuvabcdefgwxyz12");
        y.comment(6, 13);
        Check.load(y, "qrstuvabcdwxyz12");
        Check.due("24 three less of seven", y.best(0, 0), 60 - 30 + 48);
        Check.load(y, "qrstuvabcwxyz12");
        Check.due("24 four less have a score", y.score(0, 6, 9), 60 - 40 + 48);
        Check.due("24 four less are no candidate", y.best(0, 0), 60 - 40 + 24);
        AnchoredComments z = Check.with("qrstuvawxyz12");
        z.comment(6, 7);
        Check.load(z, "qrstuvwxyz12");
        Check.due("24 one letter at least", z.best(0, 0), 60 - 10 + 24);
        Check.due("24 one letter, range", z.best(0, 2) - z.best(0, 1), 1);
    }

    private static void covering() {
        AnchoredComments x = Check.with("abcdefghij");
        x.comment(3, 6);
        x.comment(1, 5);
        x.comment(3, 8);
        x.comment(3, 6);
        x.comment(4, 5);
        int[] due = {1, 2, 0, 3, 4};
        for (int rank = 0; rank < 5; rank++) {
            Check.due("26 rank " + rank, x.covering(4, rank), due[rank]);
        }
        Check.due("26 not so many", x.covering(4, 5), AnchoredComments.NONE);
        Check.due("26 many too many", x.covering(4, MAX), AnchoredComments.NONE);
        Check.due("26 the first letter", x.covering(1, 0), 1);
        Check.due("26 before it", x.covering(0, 0), AnchoredComments.NONE);
        Check.due("26 the last letter", x.covering(7, 0), 2);
        Check.due("26 behind it", x.covering(8, 0), AnchoredComments.NONE);
        Check.due("26 letter 5", x.covering(5, 2), 3);
        Check.due("26 letter 5, no more", x.covering(5, 3), AnchoredComments.NONE);
        int[] wrong = {-1, 10, MIN, MAX};
        for (int index : wrong) {
            Check.due("26 index " + index, x.covering(index, 0), AnchoredComments.BAD_INDEX);
        }
        Check.due("26 rank -1", x.covering(4, -1), AnchoredComments.BAD_INDEX);
        Check.due("26 rank MIN", x.covering(0, MIN), AnchoredComments.BAD_INDEX);
        Check.due("26 nothing recorded", Check.states(x), 6);
    }

    private static void coveringOrphans() {
        AnchoredComments x = Check.with("abcdefghij");
        x.comment(1, 5);
        x.load();
        x.comment(2, 4);
        Check.due("26 not an orphan", x.covering(3, 0), 1);
        Check.due("26 no more", x.covering(3, 1), AnchoredComments.NONE);
        Check.due("26 orphan alone", x.covering(1, 0), AnchoredComments.NONE);
        Check.due("26 empty document", new AnchoredComments().covering(0, 0), AnchoredComments.BAD_INDEX);
    }
}
