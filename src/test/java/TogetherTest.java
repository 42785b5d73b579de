import java.util.ArrayList;
import java.util.List;
import java.util.Random;

/** Promise 11: small documents, for which all ways to attach all together are written down and compared. */
public final class TogetherTest {
    private static final int CASES = 1500;
    private static final int[] NOTHING = {-1, -1, 0};

    private final Random random;
    private final AnchoredComments x = new AnchoredComments();
    private final List<Integer> orphans = new ArrayList<>();
    // for each ORPHAN all that it may get; asked once, as an object is good for 512 calls
    private final List<List<int[]>> choices = new ArrayList<>();
    // each way has for each ORPHAN the start, the end and the score of what it gets
    private List<int[][]> ways = new ArrayList<>();
    private int threshold;

    private TogetherTest(int seed) {
        random = new Random(seed);
    }

    public static void main(String[] args) {
        int ties = 0;
        for (int seed = 0; seed < CASES; seed++) {
            ties += new TogetherTest(seed).go();
        }
        Check.due("cases with several ways of the greatest sum", ties > CASES / 5 ? 1 : 0, 1);
        Check.finish();
    }

    private String text(int most) {
        StringBuilder text = new StringBuilder();
        for (int i = 1 + random.nextInt(most); i > 0; i--) {
            text.append((char) ('a' + random.nextInt(2)));
        }
        return text.toString();
    }

    /** Tells 1 if there were several ways of the greatest sum. */
    private int go() {
        makeOrphans();
        for (int comment : orphans) {
            choices.add(choicesOf(comment));
        }
        findWays(new int[orphans.size()][], 0);
        keepGreatestSums();
        int many = ways.size();
        for (int i = 0; i < orphans.size(); i++) {
            keepPreferred(i);
        }
        int attached = 0;
        for (int[] got : ways.get(0)) {
            attached += got == NOTHING ? 0 : 1;
        }
        String before = Check.all(x);
        String[] ranges = new String[orphans.size()];
        for (int i = 0; i < ranges.length; i++) {
            int[] got = ways.get(0)[i];
            ranges[i] = got == NOTHING ? Check.range(x, orphans.get(i)) : got[0] + "-" + got[1];
        }
        Check.due(before + " attachAll", x.attachAll(), attached);
        for (int i = 0; i < ranges.length; i++) {
            Check.due(before + " #" + orphans.get(i), Check.range(x, orphans.get(i)), ranges[i]);
        }
        return many > 1 ? 1 : 0;
    }

    private void makeOrphans() {
        Check.load(x, text(9));
        int many = 1 + random.nextInt(3);
        for (int i = 0; i < many; i++) {
            int from = random.nextInt(x.length());
            x.comment(from, Math.min(x.length(), from + 1 + random.nextInt(3)));
        }
        if (random.nextBoolean()) {
            x.delete(0, x.length());
            Check.insert(x, 0, text(6));
        } else {
            Check.load(x, text(6));
        }
        threshold = random.nextInt(4) == 0 ? random.nextInt(3) : random.nextInt(75);
        x.setThreshold(threshold);
        for (int start = 0; start <= x.length(); start++) {
            for (int comment = 0; comment < many; comment++) {
                if (x.range(comment, false) == start) {
                    orphans.add(comment);
                }
            }
        }
    }

    private List<int[]> choicesOf(int comment) {
        List<int[]> found = new ArrayList<>();
        int length = x.length();
        int m = Check.part(x, comment, 1).length();
        for (int from = 0; from < length; from++) {
            for (int to = from + Math.max(1, m - 3); to <= Math.min(length, from + m + 3); to++) {
                int score = x.score(comment, from, to);
                if (score >= threshold) {
                    found.add(new int[] {from, to, score});
                }
            }
        }
        return found;
    }

    private void findWays(int[][] way, int i) {
        if (i == way.length) {
            ways.add(way.clone());
            return;
        }
        way[i] = NOTHING;
        findWays(way, i + 1);
        int least = 0;
        for (int j = 0; j < i; j++) {
            least = Math.max(least, way[j][0]);
        }
        for (int[] choice : choices.get(i)) {
            if (choice[0] >= least) {
                way[i] = choice;
                findWays(way, i + 1);
            }
        }
        way[i] = NOTHING;
    }

    private static int sum(int[][] way) {
        int sum = 0;
        for (int[] got : way) {
            sum += got[2];
        }
        return sum;
    }

    private void keepGreatestSums() {
        int greatest = 0;
        for (int[][] way : ways) {
            greatest = Math.max(greatest, sum(way));
        }
        int kept = greatest;
        ways.removeIf(way -> sum(way) < kept);
    }

    private void keepPreferred(int i) {
        int[] first = ways.get(0)[i];
        for (int[][] way : ways) {
            first = isPreferred(way[i], first) ? way[i] : first;
        }
        int[] kept = first;
        ways.removeIf(way -> isPreferred(kept, way[i]));
    }

    private static boolean isPreferred(int[] one, int[] other) {
        if (one == NOTHING || other == NOTHING) {
            return one != NOTHING && other == NOTHING;
        }
        if (one[2] != other[2]) {
            return one[2] > other[2];
        }
        return one[0] != other[0] ? one[0] < other[0] : one[1] < other[1];
    }
}
