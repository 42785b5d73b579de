/** Promises 4 to 6, 14 and 15: load, insert, delete, length, letter. */
public final class DocumentTest {
    private static final int MIN = Integer.MIN_VALUE;
    private static final int MAX = Integer.MAX_VALUE;
    private static final String FORTY = "0123456789abcdefghijklmnopqrstuvwxyzABCD";

    public static void main(String[] args) {
        load();
        insert();
        insertMoves();
        delete();
        deleteMoves();
        emptyRangesMove();
        letters();
        Check.finish();
    }

    private static void load() {
        AnchoredComments x = new AnchoredComments();
        Check.due("4 load", Check.load(x, "abcdef"), 0);
        Check.due("4 document", Check.document(x), "abcdef");
        x.comment(0, 2);
        x.comment(1, 6);
        x.comment(5, 6);
        Check.due("4 load again", Check.load(x, "xyz"), 6);
        Check.due("4 document again", Check.document(x), "xyz");
        Check.due("4 range 0", Check.range(x, 0), "0-2?");
        Check.due("4 range 1", Check.range(x, 1), "1-3?");
        Check.due("4 range 2", Check.range(x, 2), "3-3?");
        Check.due("4 quotes stay", Check.quotes(x, 2), "abcde|f|");
        Check.due("4 same buffer", x.load(), 3);
        x.clearBuffer();
        Check.due("4 empty buffer", x.load(), 3);
        Check.due("4 empty", x.length(), 0);
        Check.due("4 range 1 empty", Check.range(x, 1), "0-0?");
        Check.due("4 recorded each time", Check.states(x), 6);
        AnchoredComments y = Check.with("abc");
        y.comment(0, 3);
        y.load();
        Check.due("4 same letters orphan too", Check.range(y, 0), "0-3?");
        Check.due("4 the buffer stays", y.clearBuffer(), 3);
    }

    private static void insert() {
        AnchoredComments x = Check.with("abc");
        int[] wrong = {-1, 4, 120, MIN, MAX};
        for (int position : wrong) {
            Check.due("5 insert " + position, x.insert(position), AnchoredComments.BAD_INDEX);
        }
        Check.due("5 insert", Check.insert(x, 1, "XY"), 5);
        Check.due("5 document", Check.document(x), "aXYbc");
        Check.due("5 the buffer stays", x.insert(0), 7);
        Check.due("5 at the end", x.insert(7), 9);
        Check.due("5 document again", Check.document(x), "XYaXYbcXY");
        x.clearBuffer();
        Check.due("5 empty buffer", x.insert(3), 9);
        Check.due("5 recorded", Check.states(x), 5);
        AnchoredComments y = Check.full(FORTY);
        Check.due("5 full length", y.length(), 120);
        Check.due("5 full document", Check.document(y), FORTY + FORTY + FORTY);
        Check.due("5 full", Check.insert(y, 120, "x"), AnchoredComments.FULL);
        Check.due("5 full, wrong position", y.insert(121), AnchoredComments.BAD_INDEX);
        Check.due("5 full, nothing recorded", y.undo(), 2);
        Check.due("5 80 letters", y.length(), 80);
        Check.buffer(y, FORTY);
        Check.due("5 up to 120", y.insert(80), 120);
        y.clearBuffer();
        Check.due("5 nothing into 120", y.insert(120), 120);
        y.delete(0, 1);
        Check.due("5 two into 119", Check.insert(y, 0, "zz"), AnchoredComments.FULL);
        Check.due("5 one into 119", Check.insert(y, 119, "z"), 120);
    }

    private static void insertMoves() {
        AnchoredComments x = Check.with("abcdefgh");
        x.comment(3, 5);
        String[] due = {"5-7", "5-7", "5-7", "5-7", "3-7", "3-5", "3-5", "3-5", "3-5"};
        for (int position = 0; position <= 8; position++) {
            Check.insert(x, position, "..");
            Check.due("5 range, inserted at " + position, Check.range(x, 0), due[position]);
            x.undo();
        }
        x.clearBuffer();
        x.insert(4);
        Check.due("5 range, empty buffer", Check.range(x, 0), "3-5");
    }

    private static void delete() {
        AnchoredComments x = Check.with("abcdefgh");
        int[] wrong = {-1, 9, MIN, MAX};
        for (int position : wrong) {
            Check.due("6 delete " + position, x.delete(position, 0), AnchoredComments.BAD_INDEX);
            Check.due("6 delete both " + position, x.delete(position, -1), AnchoredComments.BAD_INDEX);
        }
        int[] many = {-1, 7, 120, 121, MIN, MAX};
        for (int letters : many) {
            Check.due("6 delete letters " + letters, x.delete(2, letters), AnchoredComments.BAD_VALUE);
        }
        Check.due("6 one at the end", x.delete(8, 1), AnchoredComments.BAD_VALUE);
        Check.due("6 none at the end", x.delete(8, 0), 0);
        Check.due("6 delete", x.delete(2, 3), 0);
        Check.due("6 document", Check.document(x), "abfgh");
        Check.due("6 up to the end", x.delete(3, 2), 0);
        Check.due("6 document again", Check.document(x), "abf");
        Check.due("6 all", x.delete(0, 3), 0);
        Check.due("6 empty", x.length(), 0);
        Check.due("6 recorded", Check.states(x), 5);
        AnchoredComments y = Check.full(FORTY);
        Check.due("6 all 120", y.delete(0, 120), 0);
        Check.due("6 all 120 gone", y.length(), 0);
    }

    private static void deleteMoves() {
        AnchoredComments x = Check.with("abcdefgh");
        x.comment(3, 5);
        int[][] edits = {{0, 2}, {1, 2}, {2, 2}, {3, 1}, {4, 1}, {4, 3}, {5, 2}, {3, 0}, {2, 3}, {3, 2}, {3, 5}, {0, 8}};
        String[] due = {"1-3", "1-3", "2-3", "3-4", "3-4", "3-4", "3-5", "3-5", "2-2?", "3-3?", "3-3?", "0-0?"};
        for (int i = 0; i < edits.length; i++) {
            String call = "6 delete(" + edits[i][0] + ", " + edits[i][1] + ")";
            Check.due(call, x.delete(edits[i][0], edits[i][1]), due[i].endsWith("?") ? 1 : 0);
            Check.due(call + " range", Check.range(x, 0), due[i]);
            Check.due(call + " quotes", Check.quotes(x, 0), "abc|de|fgh");
            x.undo();
        }
        x.comment(3, 4);
        x.comment(0, 8);
        x.comment(4, 5);
        Check.due("6 three orphans", x.delete(2, 4), 3);
        Check.due("6 none again", x.delete(2, 1), 0);
        Check.due("6 the last", x.delete(0, 3), 1);
    }

    private static void emptyRangesMove() {
        AnchoredComments x = Check.with("abcdefgh");
        x.comment(3, 5);
        x.delete(3, 2);
        Check.insert(x, 4, "..");
        Check.due("5 empty range, behind", Check.range(x, 0), "3-3?");
        Check.insert(x, 3, "..");
        Check.due("5 empty range, there", Check.range(x, 0), "5-5?");
        Check.insert(x, 0, ".");
        Check.due("5 empty range, before", Check.range(x, 0), "6-6?");
        Check.due("6 orphans are not counted", x.delete(5, 2), 0);
        Check.due("6 empty range", Check.range(x, 0), "5-5?");
        AnchoredComments y = Check.with("abcdefgh");
        y.comment(3, 5);
        y.load();
        Check.insert(y, 4, "..");
        Check.due("5 an orphan's range", Check.range(y, 0), "3-7?");
        Check.due("6 an orphan's range is not counted", y.delete(2, 6), 0);
        Check.due("6 an orphan's range", Check.range(y, 0), "2-2?");
    }

    private static void letters() {
        AnchoredComments x = Check.with("a ~");
        Check.due("14 length", x.length(), 3);
        Check.due("15 letter 0", x.letter(0), 97);
        Check.due("15 letter 1", x.letter(1), 32);
        Check.due("15 letter 2", x.letter(2), 126);
        int[] wrong = {-1, 3, 40, 120, MIN, MAX};
        for (int index : wrong) {
            Check.due("15 letter " + index, x.letter(index), AnchoredComments.BAD_INDEX);
        }
        x.delete(0, 2);
        Check.due("14 length then", x.length(), 1);
        Check.due("15 no letter left behind", x.letter(1), AnchoredComments.BAD_INDEX);
        AnchoredComments y = Check.full(FORTY);
        Check.due("14 length 120", y.length(), 120);
        Check.due("15 letter 119", y.letter(119), 'D');
        Check.due("15 letter 120", y.letter(120), AnchoredComments.BAD_INDEX);
    }
}
