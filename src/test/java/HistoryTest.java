/** Promises 13 and 27 to 30: undo, setThreshold, save, restore, checksum. */
public final class HistoryTest {
    private static final int MIN = Integer.MIN_VALUE;
    private static final int MAX = Integer.MAX_VALUE;

    public static void main(String[] args) {
        undo();
        recorded();
        notRecorded();
        restoresAll();
        setThreshold();
        save();
        restore();
        checksum();
        Check.finish();
    }

    private static void undo() {
        AnchoredComments x = new AnchoredComments();
        Check.due("13 empty", x.undo(), AnchoredComments.NOT_POSSIBLE);
        for (int i = 1; i <= 8; i++) {
            Check.insert(x, 0, "a");
        }
        for (int i = 5; i >= 0; i--) {
            Check.due("13 undo", x.undo(), i);
            Check.due("13 length", x.length(), 2 + i);
        }
        Check.due("13 empty again", x.undo(), AnchoredComments.NOT_POSSIBLE);
        Check.due("13 length stays", x.length(), 2);
        x.insert(0);
        Check.due("13 undo one", x.undo(), 0);
        Check.due("13 undone is not recorded", x.undo(), AnchoredComments.NOT_POSSIBLE);
    }

    private static void recorded() {
        AnchoredComments x = Check.with("abcdef");
        x.clearBuffer();
        x.insert(0);
        x.delete(6, 0);
        Check.due("13 empty edits", Check.states(x), 3);
        Check.load(x, "abcdef");
        x.comment(0, 1);
        x.comment(0, 1);
        x.quoteAnew(0);
        x.merge();
        x.remove(0);
        Check.due("13 comments", Check.states(x), 6);
        Check.load(x, "abcdef");
        x.comment(0, 3);
        x.load();
        x.attach(0);
        Check.due("13 attach", Check.states(x), 4);
        Check.load(x, "abcdef");
        x.comment(0, 3);
        Check.load(x, "x");
        Check.due("13 attachAll of none", x.attachAll(), 0);
        Check.due("13 attachAll", Check.states(x), 4);
    }

    private static void notRecorded() {
        AnchoredComments x = Check.with("abcdef");
        x.insert(7);
        x.delete(7, 0);
        x.delete(0, 7);
        x.comment(0, 0);
        x.comment(7, 8);
        x.remove(0);
        x.quoteAnew(0);
        x.attach(0);
        Check.due("13 NONE of attachAll", x.attachAll(), AnchoredComments.NONE);
        Check.due("13 NONE of merge", x.merge(), AnchoredComments.NONE);
        x.comment(0, 1);
        x.attach(0);
        Check.load(x, "zz");
        x.setThreshold(108);
        Check.due("13 NONE of attach", x.attach(0), AnchoredComments.NONE);
        x.quoteAnew(0);
        x.setThreshold(1);
        x.save(0);
        x.type('a');
        x.clearBuffer();
        x.checksum();
        Check.due("13 errors, NONE and other sections", Check.states(x), 3);
    }

    private static void restoresAll() {
        AnchoredComments x = Check.with("abcdefgh");
        x.comment(1, 3);
        x.comment(4, 6);
        x.comment(4, 6);
        String before = Check.all(x);
        long sum = x.checksum();
        x.delete(0, 3);
        x.merge();
        x.comment(0, 1);
        x.setThreshold(33);
        x.undo();
        x.undo();
        x.undo();
        Check.due("13 all", Check.all(x), before);
        Check.due("13 checksum", x.checksum(), sum);
        Check.due("13 the next number", x.comment(0, 1), 3);
        Check.due("13 not the threshold", x.setThreshold(60), 33);
        Check.due("13 not the buffer", x.clearBuffer(), 8);
    }

    private static void setThreshold() {
        AnchoredComments x = new AnchoredComments();
        int[] wrong = {-1, 109, MIN, MAX};
        for (int threshold : wrong) {
            Check.due("27 " + threshold, x.setThreshold(threshold), AnchoredComments.BAD_VALUE);
        }
        Check.due("27 0", x.setThreshold(0), 60);
        Check.due("27 108", x.setThreshold(108), 0);
        Check.due("27 61", x.setThreshold(61), 108);
        Check.due("27 again", x.setThreshold(61), 61);
        Check.due("27 nothing recorded", x.undo(), AnchoredComments.NOT_POSSIBLE);
    }

    private static void save() {
        AnchoredComments x = Check.with("abc");
        int[] wrong = {-1, 2, MIN, MAX};
        for (int slot : wrong) {
            Check.due("28 save " + slot, x.save(slot), AnchoredComments.BAD_INDEX);
            Check.due("29 restore " + slot, x.restore(slot), AnchoredComments.BAD_INDEX);
        }
        x.comment(0, 1);
        x.comment(1, 3);
        Check.due("28 save 1", x.save(1), 2);
        Check.due("29 the other slot", x.restore(0), AnchoredComments.NOT_POSSIBLE);
        Check.due("28 save keeps the history", x.undo(), 2);
        Check.due("28 in place of it", x.save(1), 1);
        Check.due("29 restore 1", x.restore(1), 1);
        Check.due("28 save 0", x.save(0), 1);
    }

    private static void restore() {
        AnchoredComments x = Check.with("abcdef");
        x.comment(1, 3);
        x.comment(2, 4);
        x.setThreshold(77);
        String kept = Check.all(x);
        x.save(0);
        Check.load(x, "xyz");
        x.remove(0);
        x.comment(0, 2);
        x.setThreshold(5);
        String other = Check.all(x);
        x.save(1);
        Check.due("29 restore 0", x.restore(0), 2);
        Check.due("29 all", Check.all(x), kept);
        Check.due("29 the history", x.undo(), AnchoredComments.NOT_POSSIBLE);
        Check.due("29 the threshold", x.setThreshold(20), 77);
        Check.due("29 the next number", x.comment(0, 1), 2);
        Check.due("29 not the buffer", x.clearBuffer(), 3);
        Check.due("29 restore 1", x.restore(1), 2);
        Check.due("29 all of 1", Check.all(x), other);
        Check.due("29 the next number of 1", x.comment(0, 1), 3);
        Check.due("29 the threshold of 1", x.setThreshold(20), 5);
        x.delete(0, 2);
        Check.due("29 the slot keeps them", x.restore(0), 2);
        Check.due("29 all again", Check.all(x), kept);
        Check.due("29 the threshold again", x.setThreshold(20), 77);
        x.delete(0, 0);
        Check.due("29 wrong slot", x.restore(2), AnchoredComments.BAD_INDEX);
        Check.due("29 an error keeps the history", x.undo(), 0);
        Check.due("28 empty", new AnchoredComments().save(0), 0);
    }

    private static void checksum() {
        AnchoredComments x = Check.with("ab");
        long sum = 61;
        int[] letters = {2, 'a', 'b', 0};
        for (int value : letters) {
            sum = 31 * sum + value;
        }
        Check.due("30 no comments", x.checksum(), sum);
        x.comment(0, 1);
        x.comment(1, 2);
        x.remove(0);
        Check.load(x, "abc");
        sum = 61;
        int[] orphan = {3, 'a', 'b', 'c', 1, 1, 0, 1, 2, 1, 'a', 'b', 64, 1, 2};
        for (int value : orphan) {
            sum = 31 * sum + value;
        }
        Check.due("30 an orphan", x.checksum(), sum);
        x.attach(1);
        x.comment(1, 2);
        x.merge();
        sum = 61;
        int[] attached = {3, 'a', 'b', 'c', 1, 1, 1, 1, 2, 2, 'a', 'b', 64, 1, 2};
        for (int value : attached) {
            sum = 31 * sum + value;
        }
        Check.due("30 attached", x.checksum(), sum);
        x.delete(0, 3);
        sum = 61;
        int[] none = {0, 1, 1, 0, 0, 0, 2, 'a', 'b', -1005, -1005, -1005};
        for (int value : none) {
            sum = 31 * sum + value;
        }
        Check.due("30 no candidates", x.checksum(), sum);
    }
}
