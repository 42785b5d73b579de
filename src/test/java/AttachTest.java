/** Promises 10 and 11: attach, attachAll. */
public final class AttachTest {
    public static void main(String[] args) {
        attach();
        attachThreshold();
        attachAll();
        together();
        noneButCandidate();
        rangesAsBefore();
        order();
        equalSums();
        tenOrphans();
        lastLetters();
        fewerThanBefore();
        Check.finish();
    }

    private static void attach() {
        AnchoredComments x = Check.with("one two three");
        x.comment(4, 7);
        Check.due("10 attached", x.attach(0), AnchoredComments.NOT_POSSIBLE);
        Check.due("10 number", x.attach(1), AnchoredComments.BAD_INDEX);
        Check.load(x, "three, two, one");
        Check.due("10 attach", x.attach(0), 7);
        Check.due("10 range", Check.range(x, 0), "7-10");
        Check.due("10 quotes stay", Check.quotes(x, 0), "one |two| three");
        Check.due("10 weight stays", x.weight(0), 1);
        Check.due("10 once", x.attach(0), AnchoredComments.NOT_POSSIBLE);
        Check.due("10 undo", x.undo(), 3);
        Check.due("10 undone", Check.range(x, 0), "4-7?");
        x.clearBuffer();
        x.load();
        x.setThreshold(0);
        Check.due("10 no candidates", x.attach(0), AnchoredComments.NONE);
        Check.due("10 stays", Check.range(x, 0), "0-0?");
    }

    private static void attachThreshold() {
        AnchoredComments x = Check.with("abc");
        x.comment(0, 3);
        Check.load(x, "abd");
        x.setThreshold(51);
        Check.due("10 best", x.best(0, 0), 50);
        Check.due("10 below", x.attach(0), AnchoredComments.NONE);
        Check.due("11 below", x.attachAll(), 0);
        x.setThreshold(50);
        Check.due("10 at least", x.attach(0), 0);
        x.undo();
        Check.due("11 at least", x.attachAll(), 1);
        Check.due("11 range", Check.range(x, 0), "0-2");
        Check.load(x, "zzz");
        x.setThreshold(30);
        Check.due("11 of 30", x.attachAll(), 1);
        Check.load(x, "zzzzzzzzzzzzzzzzzzzzzzzzzzzzzzzzzzzzzzzz");
        x.setThreshold(31);
        Check.due("11 of 31", x.attachAll(), 0);
        AnchoredComments y = Check.with("abcdefg");
        y.comment(0, 7);
        Check.load(y, "zzzz");
        y.setThreshold(0);
        Check.due("10 negative", y.attach(0), AnchoredComments.NONE);
        Check.due("11 negative", y.attachAll(), 0);
        AnchoredComments z = Check.with("abcdef");
        z.comment(0, 6);
        Check.load(z, "zzz");
        z.setThreshold(0);
        Check.due("11 score 0", z.attachAll(), 1);
        z.undo();
        Check.due("10 score 0", z.attach(0), 0);
    }

    private static void attachAll() {
        AnchoredComments x = Check.with("one two three");
        Check.due("11 no comments", x.attachAll(), AnchoredComments.NONE);
        x.comment(0, 3);
        x.comment(8, 13);
        x.comment(4, 7);
        Check.due("11 no orphans", x.attachAll(), AnchoredComments.NONE);
        Check.load(x, "well: one two three");
        x.comment(0, 4);
        Check.due("11 three", x.attachAll(), 3);
        Check.due("11 range 0", Check.range(x, 0), "6-9");
        Check.due("11 range 1", Check.range(x, 1), "14-19");
        Check.due("11 range 2", Check.range(x, 2), "10-13");
        Check.due("11 the attached one stays", Check.range(x, 3), "0-4");
        Check.due("11 quotes stay", Check.quotes(x, 2), "one |two| three");
        Check.due("11 none again", x.attachAll(), AnchoredComments.NONE);
        x.clearBuffer();
        x.load();
        Check.due("11 no candidates", x.attachAll(), 0);
        Check.due("11 recorded", x.undo(), 5);
    }

    /** Alone each comment goes to its best range; together their order is kept. */
    private static void together() {
        AnchoredComments x = Check.with("aaaa----bbbb");
        x.comment(0, 4);
        x.comment(8, 12);
        Check.load(x, "bbbb....aaaa");
        x.setThreshold(50);
        Check.due("11 one of the two", x.attachAll(), 1);
        Check.due("11 the first gets it", Check.range(x, 0), "8-12");
        Check.due("11 the second does not", Check.range(x, 1), "8-12?");
        x.undo();
        Check.due("10 the first alone", x.attach(0), 8);
        Check.due("10 the second alone", x.attach(1), 0);
        x.undo();
        Check.due("11 attached ones do not bind", x.attachAll(), 1);
        Check.due("11 the second then", Check.range(x, 1), "0-4");
    }

    private static void noneButCandidate() {
        // with the threshold 0, candidates of the score 0 add nothing, but are rather got than none
        AnchoredComments x = Check.with("abcdef");
        x.comment(0, 6);
        x.comment(0, 6);
        Check.load(x, "zzz");
        x.setThreshold(0);
        Check.due("11 both of score 0", x.attachAll(), 2);
        Check.due("11 the same start", Check.range(x, 0) + " " + Check.range(x, 1), "0-3 0-3");
        x.undo();
        x.setThreshold(1);
        Check.due("11 none of score 0", x.attachAll(), 0);
    }

    private static void rangesAsBefore() {
        AnchoredComments x = Check.with("....................ab");
        x.comment(20, 22);
        x.comment(20, 22);
        Check.load(x, "ab");
        Check.due("11 ranges", Check.range(x, 0) + " " + Check.range(x, 1), "2-2? 2-2?");
        Check.insert(x, 0, "..............................");
        Check.due("11 best", x.best(0, 0), 84);
        Check.due("11 both", x.attachAll(), 2);
        Check.due("11 ranges then", Check.range(x, 0) + " " + Check.range(x, 1), "30-32 30-32");
    }

    private static void order() {
        // the order of the starts, not of the numbers
        AnchoredComments x = Check.with("ab..cd");
        x.comment(4, 6);
        x.comment(0, 2);
        Check.load(x, "ab..cd");
        Check.due("11 by starts", x.attachAll(), 2);
        Check.due("11 ranges by starts", Check.range(x, 0) + " " + Check.range(x, 1), "4-6 0-2");
        // the same start: the order of the numbers
        AnchoredComments y = Check.with("<ab..cd>");
        y.comment(5, 7);
        y.comment(1, 3);
        y.delete(0, 8);
        Check.insert(y, 0, "<ab..cd>");
        Check.due("11 moved to the end", Check.range(y, 0) + " " + Check.range(y, 1), "8-8? 8-8?");
        Check.due("11 only one fits in this order", y.attachAll(), 1);
        Check.due("11 the greater score", y.state(0) + y.state(1), 1);
    }

    private static void equalSums() {
        // either one alone gives the same sum: the first one gets it
        AnchoredComments x = Check.with("ab");
        x.comment(0, 1);
        x.comment(1, 2);
        x.delete(0, 2);
        Check.insert(x, 0, "ba");
        x.setThreshold(60);
        Check.due("11 scores", x.best(0, 0) * 1000 + x.best(1, 0), 60060);
        Check.due("11 one", x.attachAll(), 1);
        Check.due("11 rather a candidate than none", Check.range(x, 0) + " " + Check.range(x, 1), "1-2 2-2?");
        // of several the lower start
        AnchoredComments y = Check.with("q");
        y.comment(0, 1);
        y.delete(0, 1);
        Check.insert(y, 0, ".q.q.");
        Check.due("11 at the end", Check.range(y, 0), "5-5?");
        Check.due("11 a tie", y.attachAll(), 1);
        Check.due("11 the lower start", Check.range(y, 0), "1-2");
        // the candidate with the greater score, though that leaves less to those behind, if the sums are equal
        AnchoredComments z = Check.with("qr");
        z.comment(0, 1);
        z.comment(1, 2);
        z.load();
        z.setThreshold(0);
        Check.due("11 both at their places", z.attachAll(), 2);
        Check.due("11 their ranges", Check.range(z, 0) + " " + Check.range(z, 1), "0-1 1-2");
    }

    private static void tenOrphans() {
        AnchoredComments x = Check.with("a1b2c3d4e5f6g7h8i9j0");
        for (int i = 0; i < 10; i++) {
            x.comment(2 * i, 2 * i + 2);
        }
        Check.load(x, "~~~a1b2c3d4e5f6g7h8i9j0");
        Check.due("11 ten", x.attachAll(), 10);
        for (int i = 0; i < 10; i++) {
            Check.due("11 ten, range " + i, Check.range(x, i), (3 + 2 * i) + "-" + (5 + 2 * i));
        }
    }

    /** Two ORPHANs of the last letter of a document of 120 letters. */
    private static void lastLetters() {
        AnchoredComments x = Check.with("........................................");
        x.insert(0);
        Check.insert(x, 80, ".......................................");
        Check.insert(x, 119, "q");
        x.comment(119, 120);
        x.comment(119, 120);
        x.delete(119, 1);
        x.insert(119);
        Check.due("11 at the end", Check.range(x, 0) + " " + Check.range(x, 1), "120-120? 120-120?");
        Check.due("10 the last letter", x.best(0, 1), 119);
        Check.due("11 the last letter for both", x.attachAll(), 2);
        Check.due("11 ranges of both", Check.range(x, 0) + " " + Check.range(x, 1), "119-120 119-120");
    }

    /** What was planned for more ORPHANs before must not bind those of now. */
    private static void fewerThanBefore() {
        AnchoredComments x = Check.with("cd..ab");
        x.comment(0, 2);
        x.comment(4, 6);
        Check.load(x, "c.ab..cd");
        x.setThreshold(50);
        Check.due("11 two", x.attachAll(), 2);
        Check.due("11 ranges of two", Check.range(x, 0) + " " + Check.range(x, 1), "0-1 2-4");
        x.undo();
        x.remove(1);
        Check.due("11 one then", x.attachAll(), 1);
        Check.due("11 range of one", Check.range(x, 0), "6-8");
    }
}
