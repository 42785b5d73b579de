/** Promises 1 to 3: a new object, type, clearBuffer. */
public final class BufferTest {
    private static final int MIN = Integer.MIN_VALUE;
    private static final int MAX = Integer.MAX_VALUE;

    public static void main(String[] args) {
        newObject();
        type();
        clearBuffer();
        Check.finish();
    }

    private static void newObject() {
        AnchoredComments x = new AnchoredComments();
        Check.due("1 length", x.length(), 0);
        Check.due("1 letter", x.letter(0), AnchoredComments.BAD_INDEX);
        Check.due("1 comments", x.comments(), 0);
        Check.due("1 commentAt", x.commentAt(0), AnchoredComments.BAD_INDEX);
        Check.due("1 state", x.state(0), AnchoredComments.BAD_INDEX);
        Check.due("1 attachAll", x.attachAll(), AnchoredComments.NONE);
        Check.due("1 merge", x.merge(), AnchoredComments.NONE);
        Check.due("1 undo", x.undo(), AnchoredComments.NOT_POSSIBLE);
        Check.due("1 restore 0", x.restore(0), AnchoredComments.NOT_POSSIBLE);
        Check.due("1 restore 1", x.restore(1), AnchoredComments.NOT_POSSIBLE);
        Check.due("1 threshold", x.setThreshold(0), 60);
        Check.due("1 checksum", x.checksum(), 61L * 31 * 31);
        Check.due("1 buffer", x.clearBuffer(), 0);
        Check.due("1 other objects", new AnchoredComments().setThreshold(1), 60);
    }

    private static void type() {
        AnchoredComments x = new AnchoredComments();
        int[] wrong = {31, 127, 0, -1, 255, MIN, MAX};
        for (int letter : wrong) {
            Check.due("2 type " + letter, x.type(letter), AnchoredComments.BAD_VALUE);
        }
        Check.due("2 type 32", x.type(32), 1);
        Check.due("2 type 126", x.type(126), 2);
        for (int i = 3; i <= 40; i++) {
            Check.due("2 type no " + i, x.type(62 + i), i);
        }
        Check.due("2 full", x.type(97), AnchoredComments.FULL);
        Check.due("2 full, wrong letter", x.type(127), AnchoredComments.BAD_VALUE);
        Check.due("2 nothing recorded", x.undo(), AnchoredComments.NOT_POSSIBLE);
        Check.due("2 load", x.load(), 0);
        Check.due("2 length", x.length(), 40);
        Check.due("2 first", x.letter(0), 32);
        Check.due("2 second", x.letter(1), 126);
        for (int i = 3; i <= 40; i++) {
            Check.due("2 letter no " + i, x.letter(i - 1), 62 + i);
        }
    }

    private static void clearBuffer() {
        AnchoredComments x = new AnchoredComments();
        Check.buffer(x, "abc");
        Check.due("3 clear", x.clearBuffer(), 3);
        Check.due("3 clear again", x.clearBuffer(), 0);
        Check.due("3 nothing recorded", x.undo(), AnchoredComments.NOT_POSSIBLE);
        Check.due("3 type", x.type('z'), 1);
        x.load();
        Check.due("3 document", Check.document(x), "z");
        x.clearBuffer();
        Check.due("3 document stays", Check.document(x), "z");
        Check.buffer(x, "0123456789012345678901234567890123456789");
        Check.due("3 clear 40", x.clearBuffer(), 40);
        Check.due("3 room again", x.type('a'), 1);
    }
}
