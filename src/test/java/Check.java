import java.util.LinkedHashSet;
import java.util.Set;

/** What the tests share: the comparison of answers, and short ways to bring an object into a state. */
final class Check {
    private static final int MOST_SECONDS = 300;
    private static final Set<String> NAMES = new LinkedHashSet<>();
    private static int asked = 0;
    private static int wrong = 0;
    private static String place = "";

    static {
        endLateRuns();
    }

    private Check() {
    }

    /** A call that never ends must fail a test, not hold up all of them. */
    private static void endLateRuns() {
        Thread watch = new Thread(() -> {
            try {
                Thread.sleep(MOST_SECONDS * 1000L);
            } catch (InterruptedException ended) {
                return;
            }
            System.out.println(place + "did not end in " + MOST_SECONDS + " seconds");
            Runtime.getRuntime().halt(1);
        });
        watch.setDaemon(true);
        watch.start();
    }

    /** A case of its own: what is wrong in it is told under its name, and the cases behind it go on. */
    static void test(String name, Runnable body) {
        place = name + ": ";
        int before = asked;
        try {
            body.run();
        } catch (RuntimeException | StackOverflowError thrown) {
            fail("threw " + thrown);
        }
        if (asked == before || !NAMES.add(name)) {
            fail("asks nothing, or has the name of another case");
        }
        place = "";
    }

    private static void fail(String how) {
        wrong++;
        System.out.println(place + how);
    }

    static void due(String call, long got, long want) {
        asked++;
        if (got != want) {
            fail(call + " answered " + got + ", due is " + want);
        }
    }

    static void due(String what, String got, String want) {
        asked++;
        if (!got.equals(want)) {
            fail(what + " is <" + got + ">, due is <" + want + ">");
        }
    }

    static void finish() {
        if (Boolean.getBoolean("project.cases")) {
            NAMES.forEach(System.out::println);
        }
        if (asked == 0 || wrong != 0) {
            System.out.println(wrong + " of " + asked + " answers are not as due");
            System.exit(1);
        }
        System.out.println(asked + " answers are as due, in " + NAMES.size() + " named cases");
    }

    static void buffer(AnchoredComments x, String text) {
        x.clearBuffer();
        for (char letter : text.toCharArray()) {
            x.type(letter);
        }
    }

    static int load(AnchoredComments x, String text) {
        buffer(x, text);
        return x.load();
    }

    static int insert(AnchoredComments x, int position, String text) {
        buffer(x, text);
        return x.insert(position);
    }

    static AnchoredComments with(String document) {
        AnchoredComments x = new AnchoredComments();
        load(x, document);
        return x;
    }

    /** A document of 120 letters: three times the letters of the text, which has 40. */
    static AnchoredComments full(String text) {
        AnchoredComments x = with(text);
        x.insert(0);
        x.insert(0);
        return x;
    }

    static String document(AnchoredComments x) {
        StringBuilder text = new StringBuilder();
        for (int i = 0; i < x.length(); i++) {
            text.append((char) x.letter(i));
        }
        return text.toString();
    }

    static String part(AnchoredComments x, int comment, int part) {
        StringBuilder text = new StringBuilder();
        for (int i = 0; x.quoted(comment, part, i) >= 0 && i < 99; i++) {
            text.append((char) x.quoted(comment, part, i));
        }
        return text.toString();
    }

    /** Like "pre|quote|suf". */
    static String quotes(AnchoredComments x, int comment) {
        return part(x, comment, 0) + "|" + part(x, comment, 1) + "|" + part(x, comment, 2);
    }

    /** Like "2-5", with a ? behind it for an ORPHAN. */
    static String range(AnchoredComments x, int comment) {
        String sign = x.state(comment) == AnchoredComments.ATTACHED ? "" : "?";
        return x.range(comment, false) + "-" + x.range(comment, true) + sign;
    }

    /** All that can be asked of an object without changing it, but for the buffer, the history and the slots. */
    static String all(AnchoredComments x) {
        StringBuilder text = new StringBuilder(document(x));
        for (int i = 0; i < x.comments(); i++) {
            int comment = x.commentAt(i);
            text.append(" #").append(comment).append(' ').append(range(x, comment)).append(' ');
            text.append(quotes(x, comment)).append('*').append(x.weight(comment));
        }
        return text.toString();
    }

    /** How many states the history has; they are taken. */
    static int states(AnchoredComments x) {
        int states = 0;
        while (states < 100 && x.undo() != AnchoredComments.NOT_POSSIBLE) {
            states++;
        }
        return states;
    }
}
