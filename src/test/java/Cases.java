import java.util.function.Consumer;
import java.util.function.Function;
import java.util.function.Supplier;
import java.util.function.ToIntFunction;

/** What the tests of boundary cases share: each case is a test of its own, named by its promise. */
abstract class Cases {
    static final int BAD_INDEX = AnchoredComments.BAD_INDEX;
    static final int BAD_VALUE = AnchoredComments.BAD_VALUE;
    static final int NOT_POSSIBLE = AnchoredComments.NOT_POSSIBLE;
    static final int FULL = AnchoredComments.FULL;
    static final int NONE = AnchoredComments.NONE;
    static final int ORPHAN = AnchoredComments.ORPHAN;
    static final int ATTACHED = AnchoredComments.ATTACHED;
    static final int MIN = Integer.MIN_VALUE;
    static final int MAX = Integer.MAX_VALUE;

    /** A call with one argument that the case chooses. */
    interface Asked {
        int of(AnchoredComments x, int argument);
    }

    static void test(String name, Runnable body) {
        Check.test(name, body);
    }

    /** The call, made on an object like this, has this answer. */
    static void answers(String name, Supplier<AnchoredComments> scene, ToIntFunction<AnchoredComments> call, int due) {
        test(name, () -> Check.due("it", call.applyAsInt(scene.get()), due));
    }

    /** The call has this answer, and no later call shows that it has been made. */
    static void refused(String name, Supplier<AnchoredComments> scene, ToIntFunction<AnchoredComments> call, int due) {
        test(name, () -> {
            Check.due("it", call.applyAsInt(scene.get()), due);
            changesNothing(scene, call);
        });
    }

    static void changesNothing(Supplier<AnchoredComments> scene, ToIntFunction<AnchoredComments> call) {
        sameAfter(scene, call, Shown::past);
        sameAfter(scene, call, Shown::future);
    }

    private static void sameAfter(Supplier<AnchoredComments> scene, ToIntFunction<AnchoredComments> call,
                                  Function<AnchoredComments, String> shown) {
        AnchoredComments touched = scene.get();
        call.applyAsInt(touched);
        Check.due("what later calls show", shown.apply(touched), shown.apply(scene.get()));
    }

    /** Objects like this one, with some more calls made. */
    static Supplier<AnchoredComments> after(Supplier<AnchoredComments> scene, Consumer<AnchoredComments> calls) {
        return () -> {
            AnchoredComments x = scene.get();
            calls.accept(x);
            return x;
        };
    }

    /** Objects with this document. */
    static Supplier<AnchoredComments> document(String letters) {
        return () -> Check.with(letters);
    }
}
