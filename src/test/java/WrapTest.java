import java.math.BigInteger;

/** Wrap-arounds: numbers that grow, sums that overflow, differences of arguments that are far outside. */
public final class WrapTest extends Cases {
    private static final BigInteger TWO_TO_64 = BigInteger.ONE.shiftLeft(64);

    public static void main(String[] args) {
        weights();
        numbers();
        checksums();
        arguments();
        Check.finish();
    }

    /** A comment that so many others were merged into, all of one range. */
    private static AnchoredComments heavy(int merged) {
        AnchoredComments x = Check.with("abc");
        x.comment(0, 1);
        int left = merged;
        while (left > 0) {
            int many = Math.min(9, left);
            for (int i = 0; i < many; i++) {
                x.comment(0, 1);
            }
            x.merge();
            left -= many;
        }
        return x;
    }

    private static void weights() {
        answers("20 weight: at first 1", Scenes::small, x -> x.weight(0), 1);
        answers("20 weight: 2 comments merged", () -> heavy(1), x -> x.weight(0), 2);
        answers("20 weight: 127 comments merged", () -> heavy(126), x -> x.weight(0), 127);
        answers("20 weight: 128 comments merged do not wrap around", () -> heavy(127), x -> x.weight(0), 128);
        answers("20 weight: 256 comments merged do not wrap around", () -> heavy(255), x -> x.weight(0), 256);
        answers("20 weight: as many comments as 512 calls can merge", () -> heavy(440), x -> x.weight(0), 441);
        test("12 merge: the heavier one with the higher number goes, and its weight stays", () -> {
            AnchoredComments x = Check.with("abc");
            x.comment(1, 2);
            for (int i = 0; i < 8; i++) {
                x.comment(0, 2);
            }
            x.merge();
            // only the letter b is left of both
            x.delete(0, 1);
            Check.due("weights", Check.all(x), "bc #0 0-1 a|b|c*1 #1 0-1 |ab|c*8");
            Check.due("merge", x.merge(), 1);
            Check.due("weight", Check.all(x), "bc #0 0-1 a|b|c*9");
        });
        for (int weight : new int[] {1, 127, 128, 255, 256, 300}) {
            test("30 checksum: a weight of " + weight, () -> Check.due("checksum", heavy(weight - 1).checksum(),
                wrapped(3, 'a', 'b', 'c', 1, 0, ATTACHED, 0, 1, weight, 'a', 'b', 'c', 60 + 8, 0, 1)));
        }
    }

    private static void numbers() {
        test("7 comment: the numbers go on behind 127 and 255", () -> {
            AnchoredComments x = Check.with("abc");
            for (int number = 0; number < 247; number++) {
                x.comment(0, 1);
                x.remove(number);
            }
            for (int number = 247; number <= 256; number++) {
                Check.due("comment", x.comment(1, 2), number);
            }
            Check.due("commentAt", x.commentAt(9), 256);
            Check.due("state of 256", x.state(256), ATTACHED);
            Check.due("state of 0", x.state(0), BAD_INDEX);
        });
    }

    /** The checksum of these values by numbers without bounds, brought to a long in the end. */
    private static long wrapped(int... values) {
        BigInteger sum = BigInteger.valueOf(61);
        for (int value : values) {
            sum = sum.multiply(BigInteger.valueOf(31)).add(BigInteger.valueOf(value));
        }
        sum = sum.mod(TWO_TO_64);
        return (sum.testBit(63) ? sum.subtract(TWO_TO_64) : sum).longValueExact();
    }

    private static int[] ofDocument(String letters) {
        int[] values = new int[letters.length() + 2];
        values[0] = letters.length();
        for (int i = 0; i < letters.length(); i++) {
            values[i + 1] = letters.charAt(i);
        }
        return values;
    }

    private static void checksums() {
        for (int length = 0; length <= 40; length++) {
            String letters = Scenes.FORTY.substring(0, length);
            test("30 checksum: " + length + " letters, no comments", () ->
                Check.due("checksum", Check.with(letters).checksum(), wrapped(ofDocument(letters))));
        }
        test("30 checksum: 120 letters, no comments", () -> Check.due("checksum", Check.full(Scenes.FORTY).checksum(),
            wrapped(ofDocument(Scenes.FORTY + Scenes.FORTY + Scenes.FORTY))));
        answers("30 checksum: the last sum of digits that is no wrap-around", document("012345678"),
            x -> x.checksum() == 1558606061220787768L ? 1 : 0, 1);
        answers("30 checksum: a wrap-around below 0", document("0123456789"),
            x -> x.checksum() == -6998035846387827442L ? 1 : 0, 1);
        answers("30 checksum: a wrap-around above 0 again", document("0123456789a"),
            x -> x.checksum() == 5209480430280521458L ? 1 : 0, 1);
        test("30 checksum: comments of each kind, in the order of their numbers", () -> {
            AnchoredComments x = Check.with("abcd");
            x.comment(2, 4);
            x.comment(0, 1);
            x.comment(1, 2);
            x.comment(2, 4);
            x.remove(1);
            x.merge();
            x.delete(1, 1);
            Check.due("checksum", x.checksum(), wrapped(3, 'a', 'c', 'd', 2,
                0, ATTACHED, 1, 3, 2, 'a', 'b', 'c', 'd', 60, 1, 3,
                2, ORPHAN, 1, 1, 1, 'a', 'b', 'c', 'd', 50 + 8, 0, 1));
        });
        test("30 checksum: a best score below 0", () -> {
            AnchoredComments x = Check.with("abcdefg");
            x.comment(0, 7);
            Check.load(x, "zzzz");
            Check.due("checksum", x.checksum(), wrapped(4, 'z', 'z', 'z', 'z', 1,
                0, ORPHAN, 0, 4, 1, 'a', 'b', 'c', 'd', 'e', 'f', 'g', -10, 0, 4));
        });
    }

    private static void arguments() {
        refused("6 delete: position + many wraps around", Scenes::small, x -> x.delete(1, MAX), BAD_VALUE);
        refused("6 delete: the length + many wraps around", Scenes::small, x -> x.delete(8, MAX - 7), BAD_VALUE);
        refused("6 delete: -many is below 0, too", Scenes::small, x -> x.delete(1, MIN), BAD_VALUE);
        refused("7 comment: to - from wraps around to a large number", Scenes::small, x -> x.comment(5, MIN), BAD_VALUE);
        refused("7 comment: from + 16 wraps around", Scenes::small, x -> x.comment(MAX - 3, MAX), BAD_INDEX);
        refused("7 comment: to - from wraps around to 1", Scenes::small, x -> x.comment(MAX, MIN), BAD_INDEX);
        refused("7 comment: to - from wraps around to 16", Scenes::small, x -> x.comment(MAX - 7, MIN + 8), BAD_INDEX);
        refused("23 score: to - from wraps around to a large number", Scenes::small, x -> x.score(0, 5, MIN), BAD_VALUE);
        refused("23 score: from + 30 wraps around", Scenes::small, x -> x.score(0, MAX - 3, MAX), BAD_INDEX);
        refused("23 score: to - from wraps around to 1", Scenes::small, x -> x.score(0, MAX, MIN), BAD_INDEX);
        refused("17 commentAt: an index that is 0 in its low bits", Scenes::small, x -> x.commentAt(1 << 16), BAD_INDEX);
        refused("21 quoted: a part that is 1 in its low bits", Scenes::small, x -> x.quoted(0, (1 << 16) + 1, 0), BAD_VALUE);
        refused("27 setThreshold: 60 in its low bits", Scenes::small, x -> x.setThreshold((1 << 16) + 60), BAD_VALUE);
        refused("28 save: a slot that is 1 in its low bits", Scenes::small, x -> x.save((1 << 8) + 1), BAD_INDEX);
        refused("29 restore: a slot that is 1 in its low bits", Scenes::small, x -> x.restore((1 << 8) + 1), BAD_INDEX);
    }
}
