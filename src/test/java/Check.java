/** What the tests share: the comparison of answers, and short ways to bring an object into a state. */
final class Check {
    private static int asked = 0;
    private static int wrong = 0;

    private Check() {
    }

    static void due(String call, long got, long want) {
        asked++;
        if (got != want) {
            wrong++;
            System.out.println(call + " answered " + got + ", due is " + want);
        }
    }

    static void due(String what, String got, String want) {
        asked++;
        if (!got.equals(want)) {
            wrong++;
            System.out.println(what + " is <" + got + ">, due is <" + want + ">");
        }
    }

    static void finish() {
        if (asked == 0 || wrong != 0) {
            System.out.println(wrong + " of " + asked + " answers are not as due");
            System.exit(1);
        }
    }

    static void buffer(AnchoredComments x, String text) {
        x.clearBuffer();
        for (char letter : text.toCharArray()) {
            x.type(letter);
        }
    }

    static int load(AnchoredComments x, String text) {
        buffer(x, text);
        return x.load();
    }

    static int insert(AnchoredComments x, int position, String text) {
        buffer(x, text);
        return x.insert(position);
    }

    static AnchoredComments with(String document) {
        AnchoredComments x = new AnchoredComments();
        load(x, document);
        return x;
    }

    /** A document of 120 letters: three times the letters of the text, which has 40. */
    static AnchoredComments full(String text) {
        AnchoredComments x = with(text);
        x.insert(0);
        x.insert(0);
        return x;
    }

    static String document(AnchoredComments x) {
        StringBuilder text = new StringBuilder();
        for (int i = 0; i < x.length(); i++) {
            text.append((char) x.letter(i));
        }
        return text.toString();
    }

    static String part(AnchoredComments x, int comment, int part) {
        StringBuilder text = new StringBuilder();
        for (int i = 0; x.quoted(comment, part, i) >= 0 && i < 99; i++) {
            text.append((char) x.quoted(comment, part, i));
        }
        return text.toString();
    }

    /** Like "pre|quote|suf". */
    static String quotes(AnchoredComments x, int comment) {
        return part(x, comment, 0) + "|" + part(x, comment, 1) + "|" + part(x, comment, 2);
    }

    /** Like "2-5", with a ? behind it for an ORPHAN. */
    static String range(AnchoredComments x, int comment) {
        String sign = x.state(comment) == AnchoredComments.ATTACHED ? "" : "?";
        return x.range(comment, false) + "-" + x.range(comment, true) + sign;
    }

    /** All that can be asked of an object without changing it, but for the buffer, the history and the slots. */
    static String all(AnchoredComments x) {
        StringBuilder text = new StringBuilder(document(x));
        for (int i = 0; i < x.comments(); i++) {
            int comment = x.commentAt(i);
            text.append(" #").append(comment).append(' ').append(range(x, comment)).append(' ');
            text.append(quotes(x, comment)).append('*').append(x.weight(comment));
        }
        return text.toString();
    }

    /** How many states the history has; they are taken. */
    static int states(AnchoredComments x) {
        int states = 0;
        while (states < 100 && x.undo() != AnchoredComments.NOT_POSSIBLE) {
            states++;
        }
        return states;
    }
}
