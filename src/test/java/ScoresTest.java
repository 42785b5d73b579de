/** Promises 22 to 26 and their edges: distances, scores, candidates, best ranges, overlaps, those that cover a letter. */
public final class ScoresTest extends Cases {
    private static final String LONG = "abcdefghijklmnopqrstuvwxyz";

    public static void main(String[] args) {
        distance();
        prefix();
        suffix();
        far();
        candidates();
        fewCandidates();
        ties();
        thresholdOfBest();
        overlap();
        covering();
        Check.finish();
    }

    /** A comment of the first text whose range has the letters of the second one then. */
    private static void distance(String quote, String letters, int due) {
        answers("22 distance: of " + quote + " and " + letters, () -> {
            AnchoredComments x = Check.with("(" + quote + ")");
            x.comment(1, 1 + quote.length());
            Check.insert(x, quote.length(), letters);
            x.delete(1, quote.length() - 1);
            x.delete(1 + letters.length(), 1);
            return x;
        }, x -> x.distance(0), due);
        scoredDistance(quote, letters, due);
    }

    private static void scoredDistance(String quote, String letters, int due) {
        answers("23 score: the distance of " + quote + " and " + letters, after(document(quote), x -> {
            x.comment(0, quote.length());
            Check.load(x, letters);
        }), x -> x.score(0, 0, letters.length()), 60 - 10 * due);
    }

    private static void distance() {
        distance("abc", "abc", 0);
        distance("abc", "xyz", 3);
        distance("abc", "xabc", 1);
        distance("abc", "abcx", 1);
        distance("abc", "axbc", 1);
        distance("abc", "bc", 1);
        distance("abc", "ab", 1);
        distance("abc", "ac", 1);
        distance("abc", "xbc", 1);
        distance("abc", "abx", 1);
        distance("abc", "axc", 1);
        distance("ab", "ba", 2);
        distance("abcd", "bcda", 2);
        distance("abcdef", "badcfe", 4);
        distance("aaaa", "aa", 2);
        distance("aXbXc", "abc", 2);
        distance("kitten", "sitting", 3);
        distance("intention", "execution", 5);
        distance("Aa", "aA", 2);
        scoredDistance("a", "b", 1);
        scoredDistance("a", LONG, 25);
        scoredDistance("A", LONG, 26);
        distance("abcdefghijklmnop", "p", 15);
        distance("abcdefghijklmnop", "Z", 16);
        distance("abcdefghijklmnop", "bcdefghijklmnopq", 2);
        distance("abcdefghijklmnop", "ponmlkjihgfedcba", 16);
        distance("abcdefghijklmnop", "abcdefghijklmnopqrstuvwxyz0123", 14);
        distance("abcdefghijklmnop", "0123456789ABCDabcdefghijklmnop", 14);
    }

    private static void prefix() {
        String before = "123456";
        for (int like = 0; like <= 6; like++) {
            String letters = before.substring(6 - like);
            int a = like;
            answers("23 score: the last " + like + " letters of the prefix, and the document starts there",
                after(document("0" + before + "Q"), x -> {
                    x.comment(7, 8);
                    Check.load(x, letters + "Q");
                }), x -> x.score(0, a, a + 1), 60 + 4 * a);
            answers("23 score: the last " + like + " letters of the prefix, and another one before",
                after(document("0" + before + "Q"), x -> {
                    x.comment(7, 8);
                    Check.load(x, "012345".substring(0, 6 - a) + "." + letters + "Q");
                }), x -> x.score(0, 7, 8), 60 + 4 * a);
        }
        answers("23 score: a seventh letter that is like does not count", after(document("0" + before + "Q"),
            x -> x.comment(7, 8)), x -> x.score(0, 7, 8), 60 + 24);
        answers("23 score: letters behind a gap in the prefix do not count", after(document("abcdQ"), x -> {
            x.comment(4, 5);
            Check.load(x, "ab.dQ");
        }), x -> x.score(0, 4, 5), 60 + 4);
        answers("23 score: the prefix but for its last letter does not count", after(document("abcdQ"), x -> {
            x.comment(4, 5);
            Check.load(x, "abc.Q");
        }), x -> x.score(0, 4, 5), 60);
        answers("23 score: letters before a short prefix do not count", after(document("aQ"), x -> {
            x.comment(1, 2);
            Check.load(x, "aaaQ");
        }), x -> x.score(0, 3, 4), 60 + 4);
    }

    private static void suffix() {
        String behind = "123456";
        for (int like = 0; like <= 6; like++) {
            String letters = behind.substring(0, like);
            int b = like;
            answers("23 score: the first " + like + " letters of the suffix, and the document ends there",
                after(document("Q" + behind + "7"), x -> {
                    x.comment(0, 1);
                    Check.load(x, "Q" + letters);
                }), x -> x.score(0, 0, 1), 60 + 4 * b);
            answers("23 score: the first " + like + " letters of the suffix, and another one behind",
                after(document("Q" + behind + "7"), x -> {
                    x.comment(0, 1);
                    Check.load(x, "Q" + letters + "." + "234567".substring(b));
                }), x -> x.score(0, 0, 1), 60 + 4 * b);
        }
        answers("23 score: a seventh letter behind that is like does not count", after(document("Q" + behind + "7"),
            x -> x.comment(0, 1)), x -> x.score(0, 0, 1), 60 + 24);
        answers("23 score: letters behind a gap in the suffix do not count", after(document("Qabcd"), x -> {
            x.comment(0, 1);
            Check.load(x, "Qa.cd");
        }), x -> x.score(0, 0, 1), 60 + 4);
        answers("23 score: letters behind a short suffix do not count", after(document("Qa"), x -> {
            x.comment(0, 1);
            Check.load(x, "Qaaa");
        }), x -> x.score(0, 0, 1), 60 + 4);
        answers("23 score: the prefix and the suffix stay as they were quoted", after(document("aQb"), x -> {
            x.comment(1, 2);
            Check.load(x, "cQdaQb");
            x.attach(0);
            Check.load(x, "cQd");
        }), x -> x.score(0, 1, 2), 60);
    }

    private static void far() {
        int[] away = {0, 1, 4, 5, 6, 9, 10, 14, 15, 19, 20};
        for (int letters : away) {
            answers("23 score: " + letters + " letters behind the start", () -> quoteAt(20),
                x -> x.score(0, 20 + letters, 21 + letters), 60 - letters / 5);
            answers("23 score: " + letters + " letters before the start", () -> quoteAt(20),
                x -> x.score(0, 20 - letters, 21 - letters), 60 - letters / 5);
        }
        answers("23 score: 119 letters behind the start", Scenes::full, x -> x.score(0, 119, 120), 60 - 30 - 23);
        answers("23 score: 108 letters before the start", Scenes::full, x -> x.score(9, 0, 3), 60 - 30 - 21);
        answers("23 score: the start of an ORPHAN that moved", after(() -> quoteAt(20), x -> Check.insert(x, 0, "QQQQQ")),
            x -> x.score(0, 15, 16), 60 - 2);
    }

    /** 41 letters Q; the comment 0 is an ORPHAN with the quote Q, without a prefix or a suffix of Qs, that starts there. */
    private static AnchoredComments quoteAt(int start) {
        AnchoredComments x = Check.with(".".repeat(start) + "Q...................");
        x.comment(start, start + 1);
        Check.load(x, "Q".repeat(40));
        Check.insert(x, 40, "Q");
        return x;
    }

    /** So many letters that the quote fits best, as it has lost its last letters, or has got others between its own. */
    private static String fitting(int quoted, int letters) {
        int more = letters - quoted;
        if (more <= 0) {
            return LONG.substring(0, letters);
        }
        return quoted == 1 ? "~a" + "~".repeat(more - 1) : "a" + "~".repeat(more) + LONG.substring(1, quoted);
    }

    /** Whether a range of so many letters, between all of the prefix and all of the suffix, is the best one. */
    private static void candidate(int quoted, int letters, boolean is) {
        test("24 best: " + letters + " letters are " + (is ? "a" : "no") + " candidate for a quote of " + quoted, () -> {
            AnchoredComments x = Check.with("123456" + LONG.substring(0, quoted) + "ABCDEF");
            x.comment(6, 6 + quoted);
            Check.load(x, "123456" + fitting(quoted, letters) + "ABCDEF");
            int score = 60 - 10 * Math.abs(letters - quoted) + 48;
            Check.due("its score", x.score(0, 6, 6 + letters), score);
            boolean found = x.best(0, 1) == 6 && x.best(0, 2) == 6 + letters;
            Check.due("it is the best one", found ? 1 : 0, is ? 1 : 0);
            Check.due("the best score", x.best(0, 0) == score ? 1 : 0, is ? 1 : 0);
        });
    }

    private static void candidates() {
        int[] quotes = {1, 2, 3, 4, 5, 6, 7, 15, 16};
        for (int quoted : quotes) {
            int shortest = Math.max(1, quoted - 3);
            for (int letters = Math.max(1, quoted - 4); letters <= quoted + 4; letters++) {
                candidate(quoted, letters, letters >= shortest && letters <= quoted + 3);
            }
        }
    }

    private static void few(int quoted, int length, int dueEnd) {
        test("24 best: a quote of " + quoted + " in a document of " + length, () -> {
            AnchoredComments x = Check.with(LONG);
            x.comment(0, quoted);
            Check.load(x, "~".repeat(length));
            Check.due("score", x.best(0, 0), dueEnd == NONE ? NONE : 60 - 10 * quoted);
            Check.due("start", x.best(0, 1), dueEnd == NONE ? NONE : 0);
            Check.due("end", x.best(0, 2), dueEnd);
        });
    }

    private static void fewCandidates() {
        few(1, 0, NONE);
        few(1, 1, 1);
        few(3, 1, 1);
        few(4, 0, NONE);
        few(4, 1, 1);
        few(5, 1, NONE);
        few(5, 2, 2);
        few(5, 3, 2);
        few(16, 12, NONE);
        few(16, 13, 13);
        few(16, 14, 13);
        few(16, 40, 13);
        answers("24 best: the last range of a document of 120 letters", after(Scenes::full, x -> {
            x.delete(118, 2);
            Check.insert(x, 118, "~~");
            x.remove(0);
            x.comment(118, 120);
            x.load();
            Check.buffer(x, ".".repeat(40));
            x.load();
            x.insert(0);
            Check.insert(x, 80, ".".repeat(38) + "~~");
        }), x -> x.best(10, 1), 118);
    }

    private static void best(String name, String before, int from, int to, String letters, String due) {
        test("24 best: " + name, () -> {
            AnchoredComments x = Check.with(before);
            x.comment(from, to);
            Check.load(x, letters);
            Check.due("the range", x.best(0, 1) + "-" + x.best(0, 2), due);
            Check.due("the score", x.best(0, 0), x.score(0, x.best(0, 1), x.best(0, 2)));
        });
    }

    private static void ties() {
        best("the greatest score, at whatever start", "ab", 0, 2, "a..ab", "3-5");
        best("the greatest score, of whatever length", "abc", 0, 3, "abcabc", "0-3");
        best("of several the lowest start", "ab", 0, 2, ".ab.ab", "1-3");
        best("of several the lowest start, though farther away", "uvwxyzab", 6, 8, "..ab...ab", "2-4");
        best("of several the lowest start, not the shortest", "abc", 0, 3, "xbcbc", "0-3");
        best("of several of one start the shortest", "ab", 0, 2, "aX", "0-1");
        best("of several of one start the shortest, all other letters", "abcd", 1, 3, "xxxxxx", "0-1");
        best("the nearer one, by five letters", "..........ab", 10, 12, "ab........ab", "10-12");
        test("24 best: an ATTACHED comment has one, too", () -> {
            AnchoredComments x = Scenes.small();
            Check.due("the range", x.best(1, 1) + "-" + x.best(1, 2), "3-5");
            Check.insert(x, 4, "zzzzzz");
            Check.due("the range then", x.best(1, 1) + "-" + x.best(1, 2), "3-4");
            Check.due("the score then", x.best(1, 0), 60 - 10 + 12);
        });
    }

    private static void thresholdOfBest() {
        answers("24 best: a score below the threshold", after(Scenes::orphaned, x -> x.setThreshold(108)),
            x -> x.best(0, 0), 60 - 20);
        answers("24 best: a score below 0", after(document("abcdefghijklmnop"), x -> {
            x.comment(0, 16);
            Check.load(x, "~".repeat(13));
        }), x -> x.best(0, 0), -100);
    }

    private static void overlapping(String name, int from, int to, int due) {
        test("25 overlap: " + name, () -> {
            AnchoredComments x = Check.with(LONG);
            x.comment(8, 14);
            x.comment(from, to);
            Check.due("it", x.overlap(0, 1), due);
            Check.due("the other way", x.overlap(1, 0), due);
            x.load();
            Check.due("of ORPHANs", x.overlap(0, 1), due);
        });
    }

    private static void overlap() {
        overlapping("far before", 0, 3, 0);
        overlapping("one letter between", 4, 7, 0);
        overlapping("the end is the other's start", 4, 8, 0);
        overlapping("the last letter is the other's first", 4, 9, 1);
        overlapping("the first letter is the other's last", 13, 17, 1);
        overlapping("the start is the other's end", 14, 17, 0);
        overlapping("inside", 9, 13, 4);
        overlapping("the same start", 8, 10, 2);
        overlapping("the same end", 10, 14, 4);
        overlapping("the same range", 8, 14, 6);
        overlapping("around", 5, 17, 6);
        answers("25 overlap: the same comment", Scenes::small, x -> x.overlap(1, 1), 2);
        answers("25 overlap: an ORPHAN and one that is ATTACHED", after(Scenes::orphaned, x -> x.comment(1, 4)),
            x -> x.overlap(0, 4), 1);
    }

    private static void covering() {
        test("26 covering: the lower start first, though the number is higher", () -> covering(3, 5, 2, 5, 4, 1, 0));
        test("26 covering: the lower start first, though it is shorter", () -> covering(2, 9, 1, 5, 4, 1, 0));
        test("26 covering: of the same start the longer one first", () -> covering(2, 5, 2, 6, 4, 1, 0));
        test("26 covering: of the same range the lower number first", () -> covering(2, 5, 2, 5, 4, 0, 1));
        test("26 covering: an ORPHAN does not count", () -> {
            AnchoredComments x = Scenes.orphaned();
            x.comment(0, 8);
            Check.due("rank 0", x.covering(0, 0), 4);
            Check.due("rank 1", x.covering(0, 1), NONE);
        });
    }

    private static void covering(int from0, int to0, int from1, int to1, int index, int first, int second) {
        AnchoredComments x = Check.with(LONG);
        x.comment(from0, to0);
        x.comment(from1, to1);
        Check.due("rank 0", x.covering(index, 0), first);
        Check.due("rank 1", x.covering(index, 1), second);
        Check.due("rank 2", x.covering(index, 2), NONE);
    }
}
