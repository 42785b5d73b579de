import java.util.function.Consumer;
import java.util.function.Supplier;

/** Promises 13, 28 and 29: what the history and the slots keep, and what they do not. */
public final class RecordedTest extends Cases {
    public static void main(String[] args) {
        recorded();
        recordedThoughNothingChanges();
        notRecorded();
        undone();
        saved();
        restored();
        Check.finish();
    }

    /** The call adds just one state, and undo() brings back all that was there. */
    private static void adds(String name, Supplier<AnchoredComments> scene, Consumer<AnchoredComments> call) {
        test("13 undo: " + name + " is recorded", () -> {
            Check.due("states", Check.states(after(scene, call).get()), Check.states(scene.get()) + 1);
            AnchoredComments x = after(scene, call).get();
            x.undo();
            Check.due("what later calls show", Shown.past(x), Shown.past(scene.get()));
        });
    }

    private static void addsNone(String name, Supplier<AnchoredComments> scene, Consumer<AnchoredComments> call) {
        test("13 undo: " + name + " is not recorded", () ->
            Check.due("states", Check.states(after(scene, call).get()), Check.states(scene.get())));
    }

    /** Two states in the history; two comments of the same range, and an ORPHAN whose quote is there again. */
    private static AnchoredComments brief() {
        AnchoredComments x = Check.with("abcdefgh");
        x.comment(0, 2);
        x.comment(0, 2);
        x.comment(6, 8);
        x.delete(6, 2);
        x.save(0);
        x.restore(0);
        Check.insert(x, 6, "gh");
        x.delete(8, 0);
        return x;
    }

    private static void recorded() {
        adds("load", RecordedTest::brief, AnchoredComments::load);
        adds("insert", RecordedTest::brief, x -> x.insert(1));
        adds("delete", RecordedTest::brief, x -> x.delete(1, 1));
        adds("comment", RecordedTest::brief, x -> x.comment(1, 4));
        adds("remove", RecordedTest::brief, x -> x.remove(1));
        adds("quoteAnew", after(RecordedTest::brief, x -> x.delete(1, 1)), x -> x.quoteAnew(0));
        adds("attach", RecordedTest::brief, x -> x.attach(2));
        adds("attachAll", RecordedTest::brief, AnchoredComments::attachAll);
        adds("merge", RecordedTest::brief, AnchoredComments::merge);
    }

    private static void recordedThoughNothingChanges() {
        adds("load of nothing into nothing", Scenes::fresh, AnchoredComments::load);
        adds("load of the same letters", document("abc"), AnchoredComments::load);
        adds("insert of nothing", after(RecordedTest::brief, AnchoredComments::clearBuffer), x -> x.insert(3));
        adds("delete of 0 letters", RecordedTest::brief, x -> x.delete(3, 0));
        adds("quoteAnew of the same letters", RecordedTest::brief, x -> x.quoteAnew(0));
        adds("attachAll that attaches none", after(RecordedTest::brief, x -> x.setThreshold(108)),
            AnchoredComments::attachAll);
    }

    private static void notRecorded() {
        addsNone("type", RecordedTest::brief, x -> x.type('a'));
        addsNone("clearBuffer", RecordedTest::brief, AnchoredComments::clearBuffer);
        addsNone("setThreshold", RecordedTest::brief, x -> x.setThreshold(1));
        addsNone("save", RecordedTest::brief, x -> x.save(0));
        addsNone("an error of insert", RecordedTest::brief, x -> x.insert(9));
        addsNone("an error of delete", RecordedTest::brief, x -> x.delete(0, 9));
        addsNone("an error of comment", RecordedTest::brief, x -> x.comment(0, 0));
        addsNone("an error of remove", RecordedTest::brief, x -> x.remove(3));
        addsNone("an error of quoteAnew", RecordedTest::brief, x -> x.quoteAnew(2));
        addsNone("an error of attach", RecordedTest::brief, x -> x.attach(0));
        addsNone("NONE of attach", after(RecordedTest::brief, x -> x.setThreshold(108)), x -> x.attach(2));
        addsNone("NONE of attachAll", after(RecordedTest::brief, x -> x.remove(2)), AnchoredComments::attachAll);
        addsNone("NONE of merge", after(RecordedTest::brief, x -> x.remove(1)), AnchoredComments::merge);
        test("13 undo: undo itself is not recorded", () -> {
            AnchoredComments x = brief();
            Check.due("the first", x.undo(), 1);
            Check.due("the second", x.undo(), 0);
            Check.due("the third", x.undo(), NOT_POSSIBLE);
        });
    }

    private static void undone() {
        test("13 undo: the threshold stays", () -> {
            AnchoredComments x = brief();
            x.setThreshold(31);
            x.undo();
            Check.due("setThreshold", x.setThreshold(0), 31);
        });
        test("13 undo: the buffer stays", () -> {
            AnchoredComments x = brief();
            x.type('z');
            x.undo();
            Check.due("clearBuffer", x.clearBuffer(), 3);
        });
        test("13 undo: the slots stay", () -> {
            AnchoredComments x = brief();
            long sum = x.checksum();
            x.save(1);
            x.undo();
            Check.due("restore", x.restore(1), 3);
            Check.due("checksum", x.checksum(), sum);
        });
        test("13 undo: what is changed behind it changes no older state", () -> {
            AnchoredComments x = brief();
            x.undo();
            String before = Shown.past(after(RecordedTest::brief, AnchoredComments::undo).get());
            x.insert(0);
            x.quoteAnew(0);
            x.merge();
            x.undo();
            x.undo();
            x.undo();
            Check.due("what later calls show", Shown.past(x), before);
        });
        test("13 undo: six calls of all kinds, one by one", () -> {
            AnchoredComments x = brief();
            long[] sums = new long[6];
            Runnable[] calls = {() -> x.delete(1, 1), () -> x.merge(), () -> x.attachAll(), () -> x.quoteAnew(0),
                () -> x.remove(2), () -> x.load()};
            for (int i = 0; i < calls.length; i++) {
                sums[i] = x.checksum();
                calls[i].run();
            }
            for (int i = 5; i >= 0; i--) {
                Check.due("undo", x.undo(), i);
                Check.due("checksum", x.checksum(), sums[i]);
            }
        });
    }

    private static void saved() {
        test("28 save: in place of what the slot keeps", () -> {
            AnchoredComments x = brief();
            x.save(1);
            x.setThreshold(9);
            x.comment(3, 4);
            long sum = x.checksum();
            Check.due("save", x.save(1), 4);
            x.load();
            Check.due("restore", x.restore(1), 4);
            Check.due("checksum", x.checksum(), sum);
            Check.due("threshold", x.setThreshold(0), 9);
        });
        test("28 save: fewer comments and letters in place of more", () -> {
            AnchoredComments x = Scenes.full();
            x.save(1);
            x.delete(5, 115);
            for (int number = 9; number >= 1; number--) {
                x.remove(number);
            }
            long sum = x.checksum();
            Check.due("save", x.save(1), 1);
            x.load();
            Check.due("restore", x.restore(1), 1);
            Check.due("length", x.length(), 5);
            Check.due("checksum", x.checksum(), sum);
        });
        test("28 save: the other slot stays", () -> {
            AnchoredComments x = Scenes.small();
            x.delete(0, 1);
            x.save(1);
            Check.due("restore", x.restore(0), 3);
            Check.due("length", x.length(), 8);
            Check.due("restore 1", x.restore(1), 3);
            Check.due("length of 1", x.length(), 7);
        });
        test("28 save: the history stays", () -> {
            AnchoredComments x = brief();
            x.save(0);
            Check.due("undo", x.undo(), 1);
        });
        test("28 save: later changes do not change what is saved", () -> {
            AnchoredComments x = Scenes.small();
            long sum = x.checksum();
            x.save(0);
            x.comment(0, 2);
            x.merge();
            x.delete(0, 3);
            x.setThreshold(3);
            x.restore(0);
            Check.due("checksum", x.checksum(), sum);
            Check.due("threshold", x.setThreshold(0), 60);
        });
    }

    private static void restored() {
        test("29 restore: the history becomes empty", () -> {
            AnchoredComments x = Scenes.used();
            x.restore(0);
            Check.due("undo", x.undo(), NOT_POSSIBLE);
        });
        test("29 restore: it is not recorded, calls behind it are", () -> {
            AnchoredComments x = Scenes.used();
            x.restore(0);
            x.delete(0, 1);
            Check.due("undo", x.undo(), 0);
            Check.due("undo again", x.undo(), NOT_POSSIBLE);
        });
        test("29 restore: the slot keeps them", () -> {
            AnchoredComments x = Scenes.small();
            x.restore(0);
            long sum = x.checksum();
            x.comment(0, 2);
            x.merge();
            x.quoteAnew(0);
            x.delete(2, 6);
            x.setThreshold(3);
            Check.due("restore again", x.restore(0), 3);
            Check.due("checksum", x.checksum(), sum);
            Check.due("threshold", x.setThreshold(0), 60);
        });
        test("29 restore: the buffer stays", () -> {
            AnchoredComments x = Scenes.small();
            x.type('z');
            x.restore(0);
            Check.due("clearBuffer", x.clearBuffer(), 3);
        });
        test("29 restore: the threshold as it was saved", () -> {
            AnchoredComments x = Scenes.used();
            x.restore(0);
            Check.due("of slot 0", x.setThreshold(0), 50);
            x.restore(1);
            Check.due("of slot 1", x.setThreshold(0), 40);
        });
    }
}
