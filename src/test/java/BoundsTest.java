/** Too small and too large: each argument just inside and just outside, at both ends, and far outside. */
public final class BoundsTest extends Cases {
    private static final int[] FAR = {MIN, MIN + 1, -1000, 1000, 65536, MAX - 1, MAX};

    public static void main(String[] args) {
        type();
        insert();
        delete();
        deleteMany();
        commentStart();
        commentEnd();
        commentNumbers();
        overlapNumbers();
        letter();
        commentAt();
        quotedPart();
        quotedIndex();
        scoreStart();
        scoreEnd();
        best();
        coveringIndex();
        coveringRank();
        setThreshold();
        slots();
        Check.finish();
    }

    /** An argument of each of these values is answered by this error. */
    private static void far(String what, Asked call, int due, int... values) {
        for (int value : values) {
            refused(what + " " + value + " is far outside", Scenes::small, x -> call.of(x, value), due);
        }
    }

    private static void type() {
        refused("2 type: the code 31 is too small", Scenes::small, x -> x.type(31), BAD_VALUE);
        test("2 type: the code 32 is the smallest", () -> typed(32));
        test("2 type: the code 126 is the greatest", () -> typed(126));
        refused("2 type: the code 127 is too large", Scenes::small, x -> x.type(127), BAD_VALUE);
        far("2 type: the code", AnchoredComments::type, BAD_VALUE, FAR);
        far("2 type: the code", AnchoredComments::type, BAD_VALUE, -1, 0, 128, 97 - 256, 97 + 256, 97 + 65536);
    }

    private static void typed(int code) {
        AnchoredComments x = new AnchoredComments();
        Check.due("type", x.type(code), 1);
        x.load();
        Check.due("letter", x.letter(0), code);
    }

    private static void insert() {
        refused("5 insert: the position -1 is too small", Scenes::small, x -> x.insert(-1), BAD_INDEX);
        test("5 insert: the position 0 is the smallest", () -> inserted(0, "xyabcdefgh"));
        test("5 insert: the position before the last letter", () -> inserted(7, "abcdefgxyh"));
        test("5 insert: the length is the greatest position", () -> inserted(8, "abcdefghxy"));
        refused("5 insert: the length + 1 is too large", Scenes::small, x -> x.insert(9), BAD_INDEX);
        refused("5 insert: -1 is too small for nothing, too", after(Scenes::small, AnchoredComments::clearBuffer),
            x -> x.insert(-1), BAD_INDEX);
        refused("5 insert: the length + 1 is too large for nothing, too",
            after(Scenes::small, AnchoredComments::clearBuffer), x -> x.insert(9), BAD_INDEX);
        far("5 insert: the position", AnchoredComments::insert, BAD_INDEX, FAR);
    }

    private static void inserted(int position, String due) {
        AnchoredComments x = Scenes.small();
        Check.due("insert", x.insert(position), 10);
        Check.due("the document", Check.document(x), due);
    }

    private static void delete() {
        refused("6 delete: the position -1 is too small", Scenes::small, x -> x.delete(-1, 1), BAD_INDEX);
        test("6 delete: the position 0 is the smallest", () -> deleted(0, 1, 0, "bcdefgh"));
        test("6 delete: the position of the last letter", () -> deleted(7, 1, 0, "abcdefg"));
        test("6 delete: the length is the greatest position", () -> deleted(8, 0, 0, "abcdefgh"));
        refused("6 delete: the length + 1 is too large", Scenes::small, x -> x.delete(9, 0), BAD_INDEX);
        far("6 delete: the position", (x, position) -> x.delete(position, 0), BAD_INDEX, FAR);
    }

    private static void deleteMany() {
        refused("6 delete: -1 letters are too few", Scenes::small, x -> x.delete(3, -1), BAD_VALUE);
        test("6 delete: 0 letters are the fewest", () -> deleted(3, 0, 0, "abcdefgh"));
        test("6 delete: as many letters as there are from there on", () -> deleted(3, 5, 2, "abc"));
        refused("6 delete: one letter more than there are from there on", Scenes::small, x -> x.delete(3, 6), BAD_VALUE);
        test("6 delete: all letters", () -> deleted(0, 8, 3, ""));
        refused("6 delete: one letter more than all", Scenes::small, x -> x.delete(0, 9), BAD_VALUE);
        refused("6 delete: 1 letter from the end on", Scenes::small, x -> x.delete(8, 1), BAD_VALUE);
        refused("6 delete: 120 letters where there are 8", Scenes::small, x -> x.delete(0, 120), BAD_VALUE);
        refused("6 delete: 121 letters where there are 8", Scenes::small, x -> x.delete(0, 121), BAD_VALUE);
        answers("6 delete: 120 letters are the most", Scenes::full, x -> x.delete(0, 120), 10);
        refused("6 delete: 121 letters are too many", Scenes::full, x -> x.delete(0, 121), BAD_VALUE);
        refused("6 delete: 120 letters from the second on", Scenes::full, x -> x.delete(1, 120), BAD_VALUE);
        far("6 delete: a number of letters of", (x, many) -> x.delete(3, many), BAD_VALUE, FAR);
        far("6 delete: a number of letters of", (x, many) -> x.delete(0, many), BAD_VALUE, -2);
        far("6 delete: from the end on, a number of letters of", (x, many) -> x.delete(8, many), BAD_VALUE, FAR);
    }

    private static void deleted(int position, int many, int orphans, String due) {
        AnchoredComments x = Scenes.small();
        Check.due("delete", x.delete(position, many), orphans);
        Check.due("the document", Check.document(x), due);
    }

    private static void commentStart() {
        refused("7 comment: the start -1 is too small", Scenes::small, x -> x.comment(-1, 1), BAD_INDEX);
        test("7 comment: the start 0 is the smallest", () -> commented(0, 1, "|a|bcdefg"));
        test("7 comment: the last letter's start is the greatest that can be", () -> commented(7, 8, "bcdefg|h|"));
        refused("7 comment: the length is a position, but has no letter behind", Scenes::small,
            x -> x.comment(8, 9), BAD_VALUE);
        refused("7 comment: the start length + 1 is too large", Scenes::small, x -> x.comment(9, 10), BAD_INDEX);
        far("7 comment: the start", (x, from) -> x.comment(from, from + 1), BAD_INDEX, FAR);
    }

    private static void commentEnd() {
        refused("7 comment: the end is the start", Scenes::small, x -> x.comment(3, 3), BAD_VALUE);
        refused("7 comment: the end is before the start", Scenes::small, x -> x.comment(3, 2), BAD_VALUE);
        test("7 comment: 1 letter is the shortest range", () -> commented(3, 4, "abc|d|efgh"));
        test("7 comment: the length is the greatest end", () -> commented(5, 8, "abcde|fgh|"));
        refused("7 comment: the end length + 1 is too large", Scenes::small, x -> x.comment(5, 9), BAD_VALUE);
        test("7 comment: 16 letters are the longest range", () -> {
            AnchoredComments x = Check.with(Scenes.FORTY);
            Check.due("comment", x.comment(7, 23), 0);
            Check.due("what it quotes", Check.quotes(x, 0), "123456|789abcdefghijklm|nopqrs");
        });
        refused("7 comment: 17 letters are too many", document(Scenes.FORTY), x -> x.comment(7, 24), BAD_VALUE);
        far("7 comment: the end", (x, to) -> x.comment(3, to), BAD_VALUE, FAR);
        far("7 comment: from 0, the end", (x, to) -> x.comment(0, to), BAD_VALUE, MIN, -1, 9, 16, 17, MAX);
        far("7 comment: from the length, the end", (x, to) -> x.comment(8, to), BAD_VALUE, MIN, 7, 8, MAX);
    }

    private static void commented(int from, int to, String quotes) {
        AnchoredComments x = Scenes.small();
        Check.due("comment", x.comment(from, to), 4);
        Check.due("its range", Check.range(x, 4), from + "-" + to);
        Check.due("what it quotes", Check.quotes(x, 4), quotes);
    }

    private static void commentNumbers() {
        numbers("8 remove", AnchoredComments::remove, 2, 2);
        numbers("9 quoteAnew", AnchoredComments::quoteAnew, 2, 2);
        numbers("10 attach", AnchoredComments::attach, NOT_POSSIBLE, NOT_POSSIBLE);
        numbers("18 state", AnchoredComments::state, ATTACHED, ATTACHED);
        numbers("19 range, the start", (x, comment) -> x.range(comment, false), 0, 6);
        numbers("19 range, the end", (x, comment) -> x.range(comment, true), 2, 8);
        numbers("20 weight", AnchoredComments::weight, 1, 1);
        numbers("21 quoted", (x, comment) -> x.quoted(comment, 1, 0), 'a', 'g');
        numbers("22 distance", AnchoredComments::distance, 0, 0);
        numbers("23 score", (x, comment) -> x.score(comment, 0, 2), 60 + 24, 60 - 20 - 1);
        numbers("24 best", (x, comment) -> x.best(comment, 2), 2, 8);
        numbers("25 overlap, the first", (x, comment) -> x.overlap(comment, 1), 0, 0);
        numbers("25 overlap, the other", (x, comment) -> x.overlap(1, comment), 0, 0);
    }

    /** There are the comments 0, 1 and 3; no comment has the next number, 4. */
    private static void numbers(String name, Asked call, int atFirst, int atLast) {
        refused(name + ": the number -1 is too small", Scenes::small, x -> call.of(x, -1), BAD_INDEX);
        answers(name + ": the smallest number", Scenes::small, x -> call.of(x, 0), atFirst);
        refused(name + ": the number of a removed comment", Scenes::small, x -> call.of(x, 2), BAD_INDEX);
        answers(name + ": the greatest number", Scenes::small, x -> call.of(x, 3), atLast);
        refused(name + ": the next number is too large", Scenes::small, x -> call.of(x, 4), BAD_INDEX);
        refused(name + ": the number 0 of a new object", Scenes::fresh, x -> call.of(x, 0), BAD_INDEX);
        refused(name + ": the number 10 where there are ten", Scenes::full, x -> call.of(x, 10), BAD_INDEX);
        far(name + ": the number", call, BAD_INDEX, FAR);
    }

    private static void overlapNumbers() {
        answers("25 overlap: the smallest and the greatest number", Scenes::small, x -> x.overlap(0, 3), 0);
        answers("25 overlap: the greatest number and itself", Scenes::small, x -> x.overlap(3, 3), 2);
        far("25 overlap: with itself, the number", (x, comment) -> x.overlap(comment, comment), BAD_INDEX, -1, 2, 4, MAX);
    }

    private static void letter() {
        refused("15 letter: the index -1 is too small", Scenes::small, x -> x.letter(-1), BAD_INDEX);
        answers("15 letter: the index 0 is the smallest", Scenes::small, x -> x.letter(0), 'a');
        answers("15 letter: the length - 1 is the greatest index", Scenes::small, x -> x.letter(7), 'h');
        refused("15 letter: the length is too large an index", Scenes::small, x -> x.letter(8), BAD_INDEX);
        answers("15 letter: the index 119 of 120 letters", Scenes::full, x -> x.letter(119), 'D');
        refused("15 letter: the index 120 of 120 letters", Scenes::full, x -> x.letter(120), BAD_INDEX);
        refused("15 letter: the index of a letter that was deleted",
            after(Scenes::small, x -> x.delete(7, 1)), x -> x.letter(7), BAD_INDEX);
        far("15 letter: the index", AnchoredComments::letter, BAD_INDEX, FAR);
    }

    private static void commentAt() {
        refused("17 commentAt: the index -1 is too small", Scenes::small, x -> x.commentAt(-1), BAD_INDEX);
        answers("17 commentAt: the index 0 is the smallest", Scenes::small, x -> x.commentAt(0), 0);
        answers("17 commentAt: the greatest index", Scenes::small, x -> x.commentAt(2), 3);
        refused("17 commentAt: the number of comments is too large", Scenes::small, x -> x.commentAt(3), BAD_INDEX);
        answers("17 commentAt: the index 9 of ten comments", Scenes::full, x -> x.commentAt(9), 9);
        refused("17 commentAt: the index 10 of ten comments", Scenes::full, x -> x.commentAt(10), BAD_INDEX);
        far("17 commentAt: the index", AnchoredComments::commentAt, BAD_INDEX, FAR);
    }

    private static void quotedPart() {
        refused("21 quoted: the part -1 is too small", Scenes::small, x -> x.quoted(1, -1, 0), BAD_VALUE);
        answers("21 quoted: the part 0 is the prefix", Scenes::small, x -> x.quoted(1, 0, 0), 'a');
        answers("21 quoted: the part 1 is the quote", Scenes::small, x -> x.quoted(1, 1, 0), 'd');
        answers("21 quoted: the part 2 is the suffix", Scenes::small, x -> x.quoted(1, 2, 0), 'f');
        refused("21 quoted: the part 3 is too large", Scenes::small, x -> x.quoted(1, 3, 0), BAD_VALUE);
        far("21 quoted: the part", (x, part) -> x.quoted(1, part, 0), BAD_VALUE, FAR);
    }

    private static void quotedIndex() {
        String[] parts = {"prefix", "quote", "suffix"};
        String[] letters = {"abc", "de", "fgh"};
        for (int i = 0; i <= 2; i++) {
            int part = i;
            int last = letters[part].length() - 1;
            String name = "21 quoted, the " + parts[part] + ": ";
            refused(name + "the index -1 is too small", Scenes::small, x -> x.quoted(1, part, -1), NONE);
            answers(name + "the index 0 is the letter at the left", Scenes::small, x -> x.quoted(1, part, 0),
                letters[part].charAt(0));
            answers(name + "the greatest index is the letter at the right", Scenes::small, x -> x.quoted(1, part, last),
                letters[part].charAt(last));
            refused(name + "the index behind the last letter", Scenes::small, x -> x.quoted(1, part, last + 1), NONE);
            far(name + "the index", (x, index) -> x.quoted(1, part, index), NONE, FAR);
        }
        answers("21 quoted: the index 5 of a full prefix", document(Scenes.FORTY), x -> x.quoted(x.comment(9, 25), 0, 5), '8');
        answers("21 quoted: the index 6 of a full prefix", document(Scenes.FORTY), x -> x.quoted(x.comment(9, 25), 0, 6), NONE);
        answers("21 quoted: the index 15 of a full quote", document(Scenes.FORTY), x -> x.quoted(x.comment(9, 25), 1, 15), 'o');
        answers("21 quoted: the index 16 of a full quote", document(Scenes.FORTY), x -> x.quoted(x.comment(9, 25), 1, 16), NONE);
        answers("21 quoted: the index 5 of a full suffix", document(Scenes.FORTY), x -> x.quoted(x.comment(9, 25), 2, 5), 'u');
        answers("21 quoted: the index 6 of a full suffix", document(Scenes.FORTY), x -> x.quoted(x.comment(9, 25), 2, 6), NONE);
    }

    private static void scoreStart() {
        refused("23 score: the start -1 is too small", Scenes::full, x -> x.score(0, -1, 1), BAD_INDEX);
        answers("23 score: the start 0 is the smallest", Scenes::full, x -> x.score(0, 0, 1), 60 - 20);
        answers("23 score: the last letter's start is the greatest that can be", Scenes::full,
            x -> x.score(0, 119, 120), 60 - 30 - 23);
        refused("23 score: the length is a position, but has no letter behind", Scenes::full,
            x -> x.score(0, 120, 121), BAD_VALUE);
        refused("23 score: the start length + 1 is too large", Scenes::full, x -> x.score(0, 121, 122), BAD_INDEX);
        far("23 score: the start", (x, from) -> x.score(0, from, from + 1), BAD_INDEX, FAR);
    }

    private static void scoreEnd() {
        refused("23 score: the end is the start", Scenes::full, x -> x.score(0, 50, 50), BAD_VALUE);
        refused("23 score: the end is before the start", Scenes::full, x -> x.score(0, 50, 49), BAD_VALUE);
        answers("23 score: 1 letter is the shortest range", Scenes::full, x -> x.score(0, 51, 52), 60 - 30 - 10);
        answers("23 score: 30 letters are the longest range", Scenes::full, x -> x.score(0, 50, 80), 60 - 10 * 30 - 10);
        refused("23 score: 31 letters are too many", Scenes::full, x -> x.score(0, 50, 81), BAD_VALUE);
        answers("23 score: the length is the greatest end", Scenes::full, x -> x.score(0, 118, 120), 60 - 30 - 23);
        refused("23 score: the end length + 1 is too large", Scenes::full, x -> x.score(0, 118, 121), BAD_VALUE);
        far("23 score: the end", (x, to) -> x.score(0, 3, to), BAD_VALUE, FAR);
        far("23 score: from 0, the end", (x, to) -> x.score(0, 0, to), BAD_VALUE, MIN, -1, 9, 30, 31, MAX);
        far("23 score: from the length, the end", (x, to) -> x.score(0, 8, to), BAD_VALUE, MIN, 7, 8, MAX);
    }

    private static void best() {
        refused("24 best: what = -1 is too small", Scenes::small, x -> x.best(1, -1), BAD_VALUE);
        answers("24 best: what = 0 is the score", Scenes::small, x -> x.best(1, 0), 60 + 12 + 12);
        answers("24 best: what = 1 is the start", Scenes::small, x -> x.best(1, 1), 3);
        answers("24 best: what = 2 is the end", Scenes::small, x -> x.best(1, 2), 5);
        refused("24 best: what = 3 is too large", Scenes::small, x -> x.best(1, 3), BAD_VALUE);
        far("24 best: what =", (x, what) -> x.best(1, what), BAD_VALUE, FAR);
    }

    private static void coveringIndex() {
        refused("26 covering: the index -1 is too small", Scenes::small, x -> x.covering(-1, 0), BAD_INDEX);
        answers("26 covering: the index 0 is the smallest", Scenes::small, x -> x.covering(0, 0), 0);
        answers("26 covering: the length - 1 is the greatest index", Scenes::small, x -> x.covering(7, 0), 3);
        refused("26 covering: the length is too large an index", Scenes::small, x -> x.covering(8, 0), BAD_INDEX);
        far("26 covering: the index", (x, index) -> x.covering(index, 0), BAD_INDEX, FAR);
        answers("26 covering: the letter before a range", Scenes::small, x -> x.covering(2, 0), NONE);
        answers("26 covering: the first letter of a range", Scenes::small, x -> x.covering(3, 0), 1);
        answers("26 covering: the last letter of a range", Scenes::small, x -> x.covering(4, 0), 1);
        answers("26 covering: the letter behind a range", Scenes::small, x -> x.covering(5, 0), NONE);
    }

    private static void coveringRank() {
        refused("26 covering: the rank -1 is too small", Scenes::small, x -> x.covering(3, -1), BAD_INDEX);
        answers("26 covering: the rank 0 is the smallest", Scenes::small, x -> x.covering(3, 0), 1);
        refused("26 covering: the rank 1 of one comment", Scenes::small, x -> x.covering(3, 1), NONE);
        refused("26 covering: the rank 0 of none", Scenes::small, x -> x.covering(2, 0), NONE);
        far("26 covering: the rank", (x, rank) -> x.covering(3, rank), BAD_INDEX, MIN, -1000, -2);
        far("26 covering: the rank", (x, rank) -> x.covering(3, rank), NONE, 2, 9, 10, 1000, MAX);
    }

    private static void setThreshold() {
        refused("27 setThreshold: -1 is too small", Scenes::small, x -> x.setThreshold(-1), BAD_VALUE);
        test("27 setThreshold: 0 is the smallest", () -> thresholdSet(0));
        test("27 setThreshold: 108 is the greatest", () -> thresholdSet(108));
        refused("27 setThreshold: 109 is too large", Scenes::small, x -> x.setThreshold(109), BAD_VALUE);
        far("27 setThreshold:", AnchoredComments::setThreshold, BAD_VALUE, FAR);
    }

    private static void thresholdSet(int threshold) {
        AnchoredComments x = new AnchoredComments();
        Check.due("the previous one", x.setThreshold(threshold), 60);
        Check.due("the new one", x.setThreshold(1), threshold);
    }

    private static void slots() {
        refused("28 save: the slot -1 is too small", Scenes::used, x -> x.save(-1), BAD_INDEX);
        refused("28 save: the slot 2 is too large", Scenes::used, x -> x.save(2), BAD_INDEX);
        refused("29 restore: the slot -1 is too small", Scenes::used, x -> x.restore(-1), BAD_INDEX);
        refused("29 restore: the slot 2 is too large", Scenes::used, x -> x.restore(2), BAD_INDEX);
        for (int i = 0; i <= 1; i++) {
            int slot = i;
            answers("28 save: there is a slot " + slot, Scenes::small, x -> x.save(slot), 3);
            answers("29 restore: there is a slot " + slot, Scenes::small, x -> x.restore(slot), 3);
        }
        far("28 save: the slot", AnchoredComments::save, BAD_INDEX, FAR);
        far("29 restore: the slot", AnchoredComments::restore, BAD_INDEX, FAR);
    }
}
