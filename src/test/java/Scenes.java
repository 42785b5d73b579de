/** Workbenches in known states, made by the same calls each time. */
final class Scenes {
    static final String FORTY = "0123456789abcdefghijklmnopqrstuvwxyzABCD";

    private Scenes() {
    }

    /** A new object. */
    static AnchoredComments fresh() {
        return new AnchoredComments();
    }

    /** "abcdefgh" with the comments 0 "ab", 1 "de" and 3 "gh", all ATTACHED; 2 is removed; the buffer is "xy". */
    static AnchoredComments small() {
        AnchoredComments x = Check.with("abcdefgh");
        x.comment(0, 2);
        x.comment(3, 5);
        x.comment(4, 6);
        x.comment(6, 8);
        x.remove(2);
        x.save(0);
        x.save(1);
        Check.buffer(x, "xy");
        return x;
    }

    /**
     * Something of all, for calls that must change nothing. The comment 0 is an ORPHAN with an empty range, 2 has a
     * range of 19 letters, 4 to 6 are ordinary, 1 and 3 are removed; the history is full, and none of its states is
     * like another; both slots are in use, each with another threshold; the buffer is "zebra".
     */
    static AnchoredComments used() {
        AnchoredComments x = Check.with("the quick brown fox sees the lazy dog");
        x.comment(4, 9);
        x.comment(10, 15);
        x.comment(16, 19);
        x.setThreshold(50);
        x.save(0);
        x.comment(16, 19);
        x.merge();
        x.setThreshold(40);
        x.save(1);
        x.remove(1);
        x.delete(4, 6);
        x.comment(4, 9);
        Check.insert(x, 11, "0123456789012345");
        x.comment(0, 3);
        x.comment(30, 34);
        Check.buffer(x, "zebra");
        x.setThreshold(77);
        return x;
    }

    /** 120 letters, 40 letters in the buffer, 10 comments of 3 letters each, and a full history. */
    static AnchoredComments full() {
        AnchoredComments x = Check.full(FORTY);
        for (int i = 0; i < 10; i++) {
            x.comment(12 * i, 12 * i + 3);
        }
        x.setThreshold(33);
        x.save(0);
        return x;
    }

    /** The small one with all comments made ORPHANs by a document that has nothing of their quotes. */
    static AnchoredComments orphaned() {
        AnchoredComments x = small();
        Check.load(x, "........");
        return x;
    }
}
