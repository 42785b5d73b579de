/** What later calls show of an object, for a comparison of two; the object is used up by it. */
final class Shown {
    private Shown() {
    }

    /** The present state, the threshold, each state of the history, the buffer, and what the slots keep. */
    static String past(AnchoredComments x) {
        StringBuilder text = new StringBuilder();
        tellState(text, x);
        for (int i = 0; i <= 6; i++) {
            text.append(" undo ").append(x.undo());
            tellState(text, x);
        }
        tellNextNumber(text, x);
        text.append(" buffer ").append(x.load()).append(' ').append(Check.document(x)).append(' ').append(x.clearBuffer());
        for (int slot = 0; slot <= 1; slot++) {
            text.append(" restore ").append(x.restore(slot));
            tellState(text, x);
            tellNextNumber(text, x);
        }
        return text.toString();
    }

    /** The number that a comment gets next, which a full history can't be asked for as well. */
    static String future(AnchoredComments x) {
        StringBuilder text = new StringBuilder();
        tellNextNumber(text, x);
        tellState(text, x);
        return text.toString();
    }

    private static void tellState(StringBuilder text, AnchoredComments x) {
        int threshold = x.setThreshold(0);
        x.setThreshold(threshold);
        text.append(" state ").append(x.checksum()).append(" threshold ").append(threshold);
    }

    private static void tellNextNumber(StringBuilder text, AnchoredComments x) {
        if (x.comments() == 10) {
            x.remove(x.commentAt(0));
        }
        if (x.length() == 0) {
            x.type('n');
            x.load();
        }
        text.append(" next ").append(x.comment(0, 1));
    }
}
