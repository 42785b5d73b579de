import java.util.Random;

/** Promises 1 to 30: long runs of calls, made by fixed seeds, with the answers of the model. */
public final class ModelTest {
    private static final int RUNS = 600;
    // what comes behind these calls is free
    private static final int CALLS = 512;
    private static final int MOST_AT_ONCE = 43;
    private static final int[] EXTREMES = {Integer.MIN_VALUE, Integer.MAX_VALUE, -1, 0, 1, 120, 121};

    private final Random random;
    private final int run;
    private final AnchoredComments x = new AnchoredComments();
    private final Model model = new Model();
    private final String letters;
    // of 1000 arguments so many are out of range or extreme
    private final int wrong;
    private int calls = 0;

    private ModelTest(int seed) {
        run = seed;
        random = new Random(seed);
        String[] alphabets = {"ab", "abc", "abcdefgh ", "a", "the quick brown fox, ~"};
        letters = alphabets[seed % alphabets.length];
        wrong = seed % 3 == 0 ? 80 : 8;
    }

    public static void main(String[] args) {
        for (int seed = 0; seed < RUNS; seed++) {
            new ModelTest(seed).go();
        }
        Check.finish();
    }

    private void go() {
        while (calls < CALLS - MOST_AT_ONCE) {
            int kind = random.nextInt(100);
            if (kind < 12) {
                typeAndUse();
            } else if (kind < 50) {
                change();
            } else if (kind < 60) {
                keep();
            } else {
                ask();
            }
        }
        while (calls < CALLS) {
            ask();
        }
    }

    private void due(String call, long got, long want) {
        calls++;
        Check.due("run " + run + ", call " + calls + ": " + call, got, want);
    }

    /** A number from low to high, now and then another one. */
    private int number(int low, int high) {
        int kind = random.nextInt(1000);
        if (kind < wrong / 2) {
            return EXTREMES[random.nextInt(EXTREMES.length)];
        }
        if (kind < wrong) {
            return random.nextBoolean() ? low - 1 : high + 1;
        }
        return low + random.nextInt(Math.max(0, high - low) + 1);
    }

    private int comment() {
        if (model.comments() == 0 || random.nextInt(1000) < wrong) {
            return number(0, 12);
        }
        return model.commentAt(random.nextInt(model.comments()));
    }

    private void typeAndUse() {
        if (random.nextInt(3) > 0) {
            due("clearBuffer", x.clearBuffer(), model.clearBuffer());
        }
        int many = random.nextInt(5) == 0 ? random.nextInt(42) : random.nextInt(6);
        for (int i = 0; i < many; i++) {
            int letter = random.nextInt(1000) < wrong ? number(32, 126) : letters.charAt(random.nextInt(letters.length()));
            due("type " + letter, x.type(letter), model.type(letter));
        }
        if (random.nextInt(6) == 0) {
            due("load", x.load(), model.load());
        } else {
            insert();
        }
    }

    private void insert() {
        int position = number(0, model.length());
        due("insert " + position, x.insert(position), model.insert(position));
    }

    private void change() {
        int kind = random.nextInt(20);
        if (kind < 3) {
            insert();
        } else if (kind < 6) {
            int position = number(0, model.length());
            int many = number(0, random.nextInt(4) == 0 ? Math.max(0, model.length() - position) : 3);
            due("delete " + position + " " + many, x.delete(position, many), model.delete(position, many));
        } else if (kind < 11) {
            int from = number(0, model.length());
            int to = from + number(1, random.nextBoolean() ? 16 : 4);
            due("comment " + from + " " + to, x.comment(from, to), model.comment(from, to));
        } else if (kind < 12) {
            int comment = comment();
            due("remove " + comment, x.remove(comment), model.remove(comment));
        } else if (kind < 13) {
            int comment = comment();
            due("quoteAnew " + comment, x.quoteAnew(comment), model.quoteAnew(comment));
        } else if (kind < 15) {
            int comment = comment();
            due("attach " + comment, x.attach(comment), model.attach(comment));
        } else if (kind < 18) {
            due("attachAll", x.attachAll(), model.attachAll());
        } else {
            due("merge", x.merge(), model.merge());
        }
    }

    private void keep() {
        int kind = random.nextInt(10);
        if (kind < 3) {
            due("undo", x.undo(), model.undo());
        } else if (kind < 5) {
            int slot = number(0, 1);
            due("save " + slot, x.save(slot), model.save(slot));
        } else if (kind < 6) {
            int slot = number(0, 1);
            due("restore " + slot, x.restore(slot), model.restore(slot));
        } else {
            int threshold = number(0, random.nextBoolean() ? 60 : 108);
            due("setThreshold " + threshold, x.setThreshold(threshold), model.setThreshold(threshold));
        }
    }

    private void ask() {
        int comment = comment();
        int kind = random.nextInt(16);
        int index = number(0, model.length());
        if (kind == 0) {
            due("length", x.length(), model.length());
        } else if (kind == 1) {
            due("letter " + index, x.letter(index), model.letter(index));
        } else if (kind == 2) {
            due("comments", x.comments(), model.comments());
        } else if (kind == 3) {
            int place = number(0, 10);
            due("commentAt " + place, x.commentAt(place), model.commentAt(place));
        } else if (kind == 4) {
            due("state " + comment, x.state(comment), model.state(comment));
        } else if (kind == 5) {
            due("start " + comment, x.range(comment, false), model.range(comment, false));
        } else if (kind == 6) {
            due("end " + comment, x.range(comment, true), model.range(comment, true));
        } else if (kind == 7) {
            due("weight " + comment, x.weight(comment), model.weight(comment));
        } else if (kind == 8) {
            int part = number(0, 2);
            int place = number(0, part == 1 ? 16 : 6);
            due("quoted " + comment + " " + part + " " + place,
                x.quoted(comment, part, place), model.quoted(comment, part, place));
        } else if (kind == 9) {
            due("distance " + comment, x.distance(comment), model.distance(comment));
        } else if (kind == 10) {
            int to = index + number(1, 30);
            due("score " + comment + " " + index + " " + to, x.score(comment, index, to), model.score(comment, index, to));
        } else if (kind == 11) {
            int what = number(0, 2);
            due("best " + comment + " " + what, x.best(comment, what), model.best(comment, what));
        } else if (kind == 12) {
            int other = comment();
            due("overlap " + comment + " " + other, x.overlap(comment, other), model.overlap(comment, other));
        } else if (kind < 15) {
            int rank = number(0, 3);
            due("covering " + index + " " + rank, x.covering(index, rank), model.covering(index, rank));
        } else {
            due("checksum", x.checksum(), model.checksum());
        }
    }
}
