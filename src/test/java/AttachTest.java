import java.util.function.Supplier;

/** Promises 10 and 11 and their edges: attaching, alone and together. */
public final class AttachTest extends Cases {
    public static void main(String[] args) {
        alone();
        aloneAtThreshold();
        togetherAtThreshold();
        starts();
        orders();
        sums();
        preferences();
        far();
        others();
        Check.finish();
    }

    private static void alone() {
        answers("10 attach: the start 0 is no error", after(document("abc"), x -> {
            x.comment(0, 3);
            x.load();
        }), x -> x.attach(0), 0);
        test("10 attach: the range, the state, and what stays", () -> {
            AnchoredComments x = Check.with("ab-cd-ef");
            x.comment(3, 5);
            x.comment(3, 5);
            x.merge();
            Check.load(x, "..ab-cX-ef");
            x.setThreshold(30);
            Check.due("best", x.best(0, 0), 60 - 10 + 12 + 12);
            Check.due("attach", x.attach(0), 5);
            Check.due("all", Check.all(x), "..ab-cX-ef #0 5-7 ab-|cd|-ef*2");
        });
        test("10 attach: only this one", () -> {
            AnchoredComments x = Scenes.small();
            Check.load(x, "abcdefgh");
            Check.due("attach", x.attach(1), 3);
            Check.due("ranges", Check.range(x, 0) + " " + Check.range(x, 1) + " " + Check.range(x, 3), "0-2? 3-5 6-8?");
        });
        test("10 attach: an attached one moves and is lost again", () -> {
            AnchoredComments x = Scenes.small();
            Check.load(x, "abcdefgh");
            x.attach(1);
            Check.insert(x, 4, "..");
            Check.due("range", Check.range(x, 1), "3-7");
            Check.due("delete", x.delete(3, 4), 1);
            Check.due("range then", Check.range(x, 1), "3-3?");
            Check.due("attach again", x.attach(1), NONE);
        });
        test("10 attach: the starts of others do not bind it", () -> {
            AnchoredComments x = Check.with("ab..cd");
            x.comment(0, 2);
            x.comment(4, 6);
            Check.load(x, "cd..ab");
            Check.due("attach the first", x.attach(0), 4);
            Check.due("attach the second", x.attach(1), 0);
        });
    }

    /** An ORPHAN with the quote abc in a document in which its best score is 50. */
    private static AnchoredComments ofFifty(int threshold) {
        AnchoredComments x = Check.with("abc");
        x.comment(0, 3);
        Check.load(x, "abd");
        x.setThreshold(threshold);
        return x;
    }

    /** An ORPHAN with so many letters in a document of three others, with the threshold 0. */
    private static AnchoredComments ofLetters(int letters) {
        AnchoredComments x = Check.with("abcdefgh");
        x.comment(0, letters);
        Check.load(x, "zzzz");
        x.setThreshold(0);
        return x;
    }

    /** Two letters of two, so many letters away from where they were, with the threshold of a new object. */
    private static AnchoredComments away(int letters) {
        AnchoredComments x = Check.with("ab");
        x.comment(0, 2);
        Check.load(x, ".".repeat(letters) + "ab");
        return x;
    }

    private static void aloneAtThreshold() {
        answers("10 attach: the score is one more than the threshold", () -> ofFifty(49), x -> x.attach(0), 0);
        answers("10 attach: the score is the threshold", () -> ofFifty(50), x -> x.attach(0), 0);
        refused("10 attach: the score is one less than the threshold", () -> ofFifty(51), x -> x.attach(0), NONE);
        answers("10 attach: the score is the threshold 0", () -> ofLetters(6), x -> x.attach(0), 0);
        refused("10 attach: the score is below the threshold 0", () -> ofLetters(7), x -> x.attach(0), NONE);
        answers("10 attach: the score 60 at the first threshold", () -> away(4), x -> x.attach(0), 4);
        refused("10 attach: the score 59 at the first threshold", () -> away(5), x -> x.attach(0), NONE);
        refused("10 attach: the score 107 at the threshold 108", after(document("123456QQ123456"), x -> {
            x.comment(6, 8);
            Check.load(x, ".....123456QQ123456");
            x.setThreshold(108);
        }), x -> x.attach(0), NONE);
    }

    private static void togetherAtThreshold() {
        answers("11 attachAll: the score is one more than the threshold", () -> ofFifty(49), AnchoredComments::attachAll, 1);
        answers("11 attachAll: the score is the threshold", () -> ofFifty(50), AnchoredComments::attachAll, 1);
        answers("11 attachAll: the score is one less than the threshold", () -> ofFifty(51), AnchoredComments::attachAll, 0);
        answers("11 attachAll: the score is the threshold 0", () -> ofLetters(6), AnchoredComments::attachAll, 1);
        answers("11 attachAll: the score is below the threshold 0", () -> ofLetters(7), AnchoredComments::attachAll, 0);
        answers("11 attachAll: the score 60 at the first threshold", () -> away(4), AnchoredComments::attachAll, 1);
        answers("11 attachAll: the score 59 at the first threshold", () -> away(5), AnchoredComments::attachAll, 0);
        answers("11 attachAll: the score 108 at the threshold 108", after(document("123456QQ123456"), x -> {
            x.comment(6, 8);
            x.load();
            x.setThreshold(108);
        }), AnchoredComments::attachAll, 1);
    }

    /** The answer of attachAll(), and the ranges of the comments 0 and up then. */
    private static void together(String name, Supplier<AnchoredComments> scene, int due, String ranges) {
        test("11 attachAll: " + name, () -> {
            AnchoredComments x = scene.get();
            Check.due("it", x.attachAll(), due);
            StringBuilder text = new StringBuilder();
            for (int i = 0; i < x.comments(); i++) {
                text.append(i == 0 ? "" : " ").append(Check.range(x, x.commentAt(i)));
            }
            Check.due("the ranges", text.toString(), ranges);
        });
    }

    /** ORPHANs of these ranges of the one document in another one. */
    private static Supplier<AnchoredComments> orphans(String before, String then, int threshold, int... bounds) {
        return () -> {
            AnchoredComments x = Check.with(before);
            for (int i = 0; i < bounds.length; i += 2) {
                x.comment(bounds[i], bounds[i + 1]);
            }
            Check.load(x, then);
            x.setThreshold(threshold);
            return x;
        };
    }

    /** ORPHANs of these ranges, all of them empty and at the end of the letters that come in their place. */
    private static Supplier<AnchoredComments> atTheEnd(String before, String then, int threshold, int... bounds) {
        return () -> {
            AnchoredComments x = orphans(before, before, threshold, bounds).get();
            x.delete(0, before.length());
            Check.insert(x, 0, then);
            return x;
        };
    }

    private static void starts() {
        together("the starts may be the same", orphans("ab", "..ab", 60, 0, 2, 0, 2), 2, "2-4 2-4");
        together("the starts may be the same, with other ends", orphans("abcd", "abcd", 60, 0, 4, 0, 2), 2, "0-4 0-2");
        together("the ends may decrease", orphans("abcdef", "abcdef", 60, 0, 6, 2, 4), 2, "0-6 2-4");
        together("the starts do not decrease", orphans("ab..cd", "cd..ab", 55, 0, 2, 4, 6), 1, "4-6 4-6?");
        together("the starts do not decrease, the second one has the greater score", orphans("ab..cdX", "cdX.ab", 55, 0, 2, 4, 6),
            1, "0-2? 0-2");
        together("a start one less is too low", orphans("ab", "ba", 60, 0, 1, 1, 2), 1, "1-2 1-2?");
        together("one that gets none does not bind those behind",
            orphans("abQQcd", "cdab", 58, 0, 2, 2, 4, 4, 6), 1, "2-4 2-4? 4-4?");
        together("one that gets none between two", orphans("abQQQQcd", "ab..cd", 58, 0, 2, 2, 6, 6, 8), 2, "0-2 2-6? 4-6");
    }

    private static void orders() {
        together("the order of the starts, not that of the numbers", orphans("ab..cd", "ab..cd", 60, 4, 6, 0, 2), 2, "4-6 0-2");
        together("of the same start the order of the numbers, as it fits", atTheEnd("ab..cd", "ab..cd", 55, 0, 2, 4, 6), 2, "0-2 4-6");
        together("of the same start the order of the numbers, as it does not fit", atTheEnd("ab..cd", "ab..cd", 55, 4, 6, 0, 2),
            1, "4-6 6-6?");
        together("of the same start the order of the numbers, the longer range first",
            orphans("abcdXY", "ab~~~~abCd", 45, 0, 4, 0, 2), 2, "6-10 6-8");
        together("of the same start the order of the numbers, the shorter range first",
            orphans("abcdXY", "ab~~~~abCd", 45, 0, 2, 0, 4), 2, "0-2 6-10");
        together("the order of the starts as they are now", () -> {
            AnchoredComments x = orphans("ab..cd", "..cd..ab", 50, 0, 2, 4, 6).get();
            x.attach(0);
            // the comment 0 is behind the comment 1 when it loses its letters
            x.delete(6, 2);
            Check.insert(x, 6, "ab");
            return x;
        }, 2, "6-8 2-4");
    }

    private static void sums() {
        together("the greatest sum, not the most comments",
            orphans("123456abcd789012efgh", "abcXefgX123456abcd789012", 45, 6, 10, 16, 20), 1, "14-18 16-20?");
        together("the most comments, if their sum is greater",
            orphans("123456abcd789012efgh", "abcXefgX......abcd......", 45, 6, 10, 16, 20), 2, "0-3 4-7");
        together("a lower score of the first one for a greater sum",
            orphans("abcd", "aX.cd.ab", 45, 0, 2, 2, 4), 2, "0-1 3-5");
        together("scores with the ranges as they were before", atTheEnd("ab", "ab.........", 50, 0, 2, 0, 2), 2, "0-2 0-2");
    }

    private static void preferences() {
        together("of equal sums, rather a candidate than none for the first", atTheEnd("ab", "ba", 60, 0, 1, 1, 2), 1, "1-2 2-2?");
        together("rather a candidate of the score 0 than none", orphans("abcdef", "zzz", 0, 0, 6), 1, "0-3");
        together("rather candidates of the score 0 than none, for both", orphans("abcdef", "zzz", 0, 0, 6, 0, 6), 2, "0-3 0-3");
        // 60 and 64 or 64 and 60
        together("of equal sums, the greater score for the first, though the start is higher",
            orphans("QxRy", "QRyQx.R.", 60, 0, 1, 2, 3), 2, "3-4 6-7");
        together("of equal scores the lower start", atTheEnd("q", ".q.q.", 55, 0, 1), 1, "1-2");
        together("of equal scores the lower start, though it is the longer one",
            orphans("abc", "xbcbc", 50, 0, 3), 1, "0-3");
        together("of equal scores and starts the shorter one", orphans("ab", "aX", 50, 0, 2), 1, "0-1");
        together("of equal scores the lower start, for the second, too", orphans("a.q", "a.qq.q", 55, 0, 1, 2, 3), 2, "0-1 2-3");
        together("the second gets no start below that of the first, though the score is equal",
            orphans("a.b", "b,a,b", 60, 0, 1, 2, 3), 2, "2-3 4-5");
        together("the second chooses of what the first has left", orphans("ab", "b.ab", 50, 0, 1, 1, 2), 2, "2-3 3-4");
    }

    /** 120 letters with the quote of both ORPHANs as the last one. */
    private static AnchoredComments lastOf120() {
        AnchoredComments x = Scenes.full();
        for (int number = 0; number < 10; number++) {
            x.remove(number);
        }
        x.delete(119, 1);
        Check.insert(x, 119, "~");
        x.comment(119, 120);
        x.comment(119, 120);
        x.delete(119, 1);
        x.insert(119);
        return x;
    }

    private static void far() {
        together("the last of 120 letters, for both", AttachTest::lastOf120, 2, "119-120 119-120");
        answers("10 attach: the last of 120 letters", AttachTest::lastOf120, x -> x.attach(11), 119);
        together("far away from where they were", after(orphans("ab", "ab", 50, 0, 2, 0, 2), x -> {
            Check.load(x, ".".repeat(38) + "ab");
        }), 2, "38-40 38-40");
        together("fewer ORPHANs than the time before", () -> {
            AnchoredComments x = orphans("cd..ab", "c.ab..cd", 50, 0, 2, 4, 6).get();
            Check.due("two", x.attachAll(), 2);
            Check.due("their ranges", Check.range(x, 0) + " " + Check.range(x, 1), "0-1 2-4");
            x.undo();
            x.remove(1);
            return x;
        }, 1, "6-8");
        together("more ORPHANs than the time before", () -> {
            AnchoredComments x = orphans("cd..ab", "c.ab..cd", 50, 0, 2, 4, 6).get();
            x.save(0);
            x.remove(1);
            x.attachAll();
            Check.due("one", Check.range(x, 0), "6-8");
            x.restore(0);
            return x;
        }, 2, "0-1 2-4");
    }

    private static void others() {
        together("the ATTACHED ones stay, and do not bind", after(orphans("ab..cd", "cd..ab", 55, 0, 2, 4, 6), x -> {
            x.attach(0);
        }), 1, "4-6 0-2");
        answers("11 attachAll: none is left", after(orphans("ab", "ab", 60, 0, 2), AnchoredComments::attachAll),
            AnchoredComments::attachAll, NONE);
        test("11 attachAll: the quotes and the weights stay", () -> {
            AnchoredComments x = Check.with("ab-cd-ef");
            x.comment(3, 5);
            x.comment(3, 5);
            x.merge();
            Check.load(x, "..ab-cX-ef");
            x.setThreshold(30);
            Check.due("attachAll", x.attachAll(), 1);
            Check.due("all", Check.all(x), "..ab-cX-ef #0 5-7 ab-|cd|-ef*2");
        });
    }
}
