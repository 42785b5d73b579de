/** Promises 4 to 6, 14 and 15 and their edges: inserted, deleted and replaced just before, at and just behind a bound of a range. */
public final class MovesTest extends Cases {
    public static void main(String[] args) {
        insert();
        insertAtEmptyRange();
        delete();
        deleteAtEmptyRange();
        orphaned();
        load();
        lengthAndLetters();
        Check.finish();
    }

    /** The range [3, 5) of "abcdefgh". */
    private static AnchoredComments threeToFive() {
        AnchoredComments x = Check.with("abcdefgh");
        x.comment(3, 5);
        return x;
    }

    private static AnchoredComments emptyAtThree() {
        AnchoredComments x = threeToFive();
        x.delete(3, 2);
        return x;
    }

    private static void inserted(String name, AnchoredComments x, int position, String due) {
        test("5 insert: " + name, () -> {
            Check.insert(x, position, "..");
            Check.due("the range", Check.range(x, 0), due);
            Check.due("the quote", Check.quotes(x, 0), "abc|de|fgh");
        });
    }

    private static void insert() {
        inserted("at the start of the document, before a range", threeToFive(), 0, "5-7");
        inserted("one letter before the start of a range", threeToFive(), 2, "5-7");
        inserted("at the start of a range both bounds move", threeToFive(), 3, "5-7");
        inserted("one letter behind the start of a range only the end moves", threeToFive(), 4, "3-7");
        inserted("at the end of a range nothing moves", threeToFive(), 5, "3-5");
        inserted("one letter behind the end of a range", threeToFive(), 6, "3-5");
        inserted("at the end of the document, behind a range", threeToFive(), 8, "3-5");
        test("5 insert: at the start of a range of 1 letter", () -> oneLetter(1, "3-4"));
        test("5 insert: at the end of a range of 1 letter", () -> oneLetter(2, "1-2"));
        test("5 insert: at the start of the range of all letters", () -> allLetters(0, "2-4"));
        test("5 insert: at the end of the range of all letters", () -> allLetters(2, "0-2"));
        test("5 insert: inside of the range of all letters", () -> allLetters(1, "0-4"));
        test("5 insert: an ORPHAN's range moves like others", () -> {
            AnchoredComments x = threeToFive();
            x.load();
            Check.insert(x, 4, "..");
            Check.due("inside", Check.range(x, 0), "3-7?");
            x.insert(3);
            Check.due("at the start", Check.range(x, 0), "5-9?");
            x.insert(9);
            Check.due("at the end", Check.range(x, 0), "5-9?");
        });
    }

    private static void oneLetter(int position, String due) {
        AnchoredComments x = Check.with("abc");
        x.comment(1, 2);
        Check.insert(x, position, "..");
        Check.due("the range", Check.range(x, 0), due);
    }

    private static void allLetters(int position, String due) {
        AnchoredComments x = Check.with("ab");
        x.comment(0, 2);
        Check.insert(x, position, "..");
        Check.due("the range", Check.range(x, 0), due);
    }

    private static void insertAtEmptyRange() {
        inserted("one letter before an empty range", emptyAtThree(), 2, "5-5?");
        inserted("at an empty range both bounds move", emptyAtThree(), 3, "5-5?");
        inserted("one letter behind an empty range", emptyAtThree(), 4, "3-3?");
    }

    private static void deleted(String name, AnchoredComments x, int position, int many, String due) {
        test("6 delete: " + name, () -> {
            boolean attached = x.state(0) == ATTACHED;
            Check.due("it", x.delete(position, many), attached && due.endsWith("?") ? 1 : 0);
            Check.due("the range", Check.range(x, 0), due);
            Check.due("the quote", Check.quotes(x, 0), "abc|de|fgh");
        });
    }

    private static void delete() {
        deleted("letters before a range, not up to it", threeToFive(), 0, 2, "1-3");
        deleted("letters up to the start of a range", threeToFive(), 1, 2, "1-3");
        deleted("all letters before a range", threeToFive(), 0, 3, "0-2");
        deleted("letters up to one behind the start", threeToFive(), 2, 2, "2-3");
        deleted("the first letter of a range", threeToFive(), 3, 1, "3-4");
        deleted("the last letter of a range", threeToFive(), 4, 1, "3-4");
        deleted("the last letter of a range and letters behind", threeToFive(), 4, 3, "3-4");
        deleted("the last letter of a range and all behind", threeToFive(), 4, 4, "3-4");
        deleted("the letter at the end of a range", threeToFive(), 5, 1, "3-5");
        deleted("all letters behind a range", threeToFive(), 5, 3, "3-5");
        deleted("the last letter of the document", threeToFive(), 7, 1, "3-5");
        deleted("just the letters of a range", threeToFive(), 3, 2, "3-3?");
        deleted("one letter more at the left of a range", threeToFive(), 2, 3, "2-2?");
        deleted("one letter more at the right of a range", threeToFive(), 3, 3, "3-3?");
        deleted("one letter less at the left of a range", threeToFive(), 4, 2, "3-4");
        deleted("the letters of a range and all before", threeToFive(), 0, 5, "0-0?");
        deleted("the letters of a range and all behind", threeToFive(), 3, 5, "3-3?");
        deleted("all letters, with a range", threeToFive(), 0, 8, "0-0?");
        test("6 delete: letters inside of a range, neither the first nor the last", () -> {
            AnchoredComments x = Check.with("abcdefgh");
            x.comment(1, 7);
            Check.due("it", x.delete(2, 4), 0);
            Check.due("the range", Check.range(x, 0), "1-3");
        });
    }

    private static void deleteAtEmptyRange() {
        deleted("letters up to an empty range", emptyAtThree(), 1, 2, "1-1?");
        deleted("letters from an empty range on", emptyAtThree(), 3, 2, "3-3?");
        deleted("letters around an empty range", emptyAtThree(), 2, 2, "2-2?");
        deleted("letters behind an empty range", emptyAtThree(), 4, 1, "3-3?");
    }

    private static void orphaned() {
        test("6 delete: just those that lose all letters become ORPHANs", () -> {
            AnchoredComments x = Check.with("abcdefgh");
            x.comment(2, 4);
            x.comment(1, 4);
            x.comment(2, 5);
            x.comment(3, 4);
            x.comment(4, 5);
            Check.due("delete", x.delete(2, 2), 2);
            Check.due("all", Check.all(x), "abefgh #0 2-2? ab|cd|efgh*1 #1 1-2 a|bcd|efgh*1"
                + " #2 2-3 ab|cde|fgh*1 #3 2-2? abc|d|efgh*1 #4 2-3 abcd|e|fgh*1");
        });
        test("6 delete: an ORPHAN with letters stays an ORPHAN", () -> {
            AnchoredComments x = threeToFive();
            x.load();
            Check.due("delete", x.delete(3, 1), 0);
            Check.due("the range", Check.range(x, 0), "3-4?");
            Check.due("delete the last", x.delete(3, 1), 0);
            Check.due("the range then", Check.range(x, 0), "3-3?");
        });
    }

    private static void loaded(String name, String letters, String due) {
        test("4 load: " + name, () -> {
            AnchoredComments x = threeToFive();
            Check.due("load", Check.load(x, letters), 8);
            Check.due("the document", Check.document(x), letters);
            Check.due("the range", Check.range(x, 0), due);
            Check.due("the quote", Check.quotes(x, 0), "abc|de|fgh");
        });
    }

    private static void load() {
        loaded("the new length is 0", "", "0-0?");
        loaded("the new length is less than the start", "ab", "2-2?");
        loaded("the new length is the start", "abc", "3-3?");
        loaded("the new length is between the bounds", "abcd", "3-4?");
        loaded("the new length is the end", "abcde", "3-5?");
        loaded("the new length is greater than the end", "abcdef", "3-5?");
        loaded("the same letters make an ORPHAN, too", "abcdefgh", "3-5?");
        loaded("more letters than before", "abcdefghijkl", "3-5?");
        test("4 load: the buffer stays as it is", () -> {
            AnchoredComments x = Scenes.small();
            x.load();
            Check.due("clearBuffer", x.clearBuffer(), 2);
        });
        test("5 insert: the buffer stays as it is", () -> {
            AnchoredComments x = Scenes.small();
            x.insert(4);
            x.insert(0);
            Check.due("the document", Check.document(x), "xyabcdxyefgh");
            Check.due("clearBuffer", x.clearBuffer(), 2);
        });
        test("4 load: the document does not change with the buffer", () -> {
            AnchoredComments x = Scenes.small();
            x.load();
            x.type('z');
            Check.due("the document", Check.document(x), "xy");
            x.clearBuffer();
            Check.due("the document then", Check.document(x), "xy");
        });
    }

    private static void lengthAndLetters() {
        test("14 length, 15 letter: after each call that changes the document", () -> {
            AnchoredComments x = new AnchoredComments();
            shows(x, "");
            Check.load(x, " a~");
            shows(x, " a~");
            x.save(0);
            Check.insert(x, 1, "bc");
            shows(x, " bca~");
            x.delete(0, 2);
            shows(x, "ca~");
            x.undo();
            shows(x, " bca~");
            x.restore(0);
            shows(x, " a~");
            Check.load(x, "z");
            shows(x, "z");
        });
    }

    private static void shows(AnchoredComments x, String letters) {
        Check.due("length", x.length(), letters.length());
        for (int i = 0; i < letters.length(); i++) {
            Check.due("letter " + i, x.letter(i), letters.charAt(i));
        }
        Check.due("behind the last letter", x.letter(letters.length()), BAD_INDEX);
    }
}
