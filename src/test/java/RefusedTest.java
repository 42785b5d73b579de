import java.util.HashSet;
import java.util.Set;
import java.util.function.Supplier;
import java.util.function.ToIntFunction;

/** Refused calls: which error they answer where several would fit, and that no later call shows them. */
public final class RefusedTest extends Cases {
    private static final Supplier<AnchoredComments> NO_ORPHANS = after(Scenes::used, x -> x.remove(0));
    // the comment 5 of it is an ORPHAN then, and still has letters
    private static final Supplier<AnchoredComments> ORPHANS = after(Scenes::used, AnchoredComments::load);
    // the buffer is loaded when it is empty, so there is no letter
    private static final Supplier<AnchoredComments> NO_DOCUMENT = after(Scenes::used, x -> {
        x.clearBuffer();
        x.load();
    });

    public static void main(String[] args) {
        scenes();
        changesShow();
        buffer();
        document();
        comment();
        removeAndQuote();
        attach();
        attachAndMergeAll();
        history();
        listed();
        quoted();
        scores();
        overlapAndCovering();
        kept();
        questions();
        Check.finish();
    }

    /** What the cases below rely on. */
    private static void scenes() {
        test("scenes: something of all is in use", () -> {
            AnchoredComments x = Scenes.used();
            Check.due("all", Check.all(x), "the brown f0123456789012345ox sees the lazy dog"
                + " #0 4-4? the |quick| brown*1 #2 10-29 brown |fox| sees *2"
                + " #4 4-9 the |brown| fox s*1 #5 0-3 |the| brown*1 #6 30-34 345ox |sees| the l*1");
            Check.due("threshold", x.setThreshold(77), 77);
            Set<Long> sums = new HashSet<>();
            sums.add(x.checksum());
            for (int left = 5; left >= 0; left--) {
                Check.due("undo", x.undo(), left);
                sums.add(x.checksum());
            }
            Check.due("states that are not like another", sums.size(), 7);
            Check.due("slot 0", x.restore(0) * 1000 + x.setThreshold(0), 3050);
            Check.due("slot 1", x.restore(1) * 1000 + x.setThreshold(0), 3040);
        });
        test("scenes: all is full", () -> {
            AnchoredComments x = Scenes.full();
            Check.due("length", x.length(), 120);
            Check.due("buffer", x.clearBuffer(), 40);
            Check.due("comments", x.comments(), 10);
            Check.due("states", Check.states(x), 6);
        });
    }

    /** What later calls show is another thing after each kind of change. */
    private static void changesShow() {
        shows("a letter in the buffer", x -> x.type('q'));
        shows("no letter in the buffer", AnchoredComments::clearBuffer);
        shows("a threshold", x -> x.setThreshold(76));
        shows("a slot 0", x -> x.save(0));
        shows("a slot 1", x -> x.save(1));
        shows("a state in the history", x -> x.delete(0, 0));
        shows("a state less", AnchoredComments::undo);
        shows("a letter less", x -> x.delete(40, 1));
        shows("a quote", x -> x.quoteAnew(4));
        shows("a comment less", x -> x.remove(6));
        shows("a next number", x -> x.comment(0, 1));
    }

    private static void shows(String name, ToIntFunction<AnchoredComments> call) {
        test("what later calls show: " + name, () -> {
            AnchoredComments x = Scenes.used();
            call.applyAsInt(x);
            Check.due("the same", Shown.past(x).equals(Shown.past(Scenes.used())) ? 1 : 0, 0);
        });
    }

    /** On an object in which something of all is in use. */
    private static void refusedInUse(String name, ToIntFunction<AnchoredComments> call, int due) {
        refused(name, Scenes::used, call, due);
    }

    private static void buffer() {
        refusedInUse("2 type: BAD_VALUE", x -> x.type(31), BAD_VALUE);
        refused("2 type: FULL", Scenes::full, x -> x.type(32), FULL);
        refused("2 type: BAD_VALUE before FULL, too small", Scenes::full, x -> x.type(31), BAD_VALUE);
        refused("2 type: BAD_VALUE before FULL, too large", Scenes::full, x -> x.type(127), BAD_VALUE);
    }

    private static void document() {
        refusedInUse("5 insert: BAD_INDEX, too small", x -> x.insert(-1), BAD_INDEX);
        refusedInUse("5 insert: BAD_INDEX, too large", x -> x.insert(x.length() + 1), BAD_INDEX);
        refused("5 insert: FULL", Scenes::full, x -> x.insert(1), FULL);
        refused("5 insert: BAD_INDEX before FULL, too small", Scenes::full, x -> x.insert(-1), BAD_INDEX);
        refused("5 insert: BAD_INDEX before FULL, too large", Scenes::full, x -> x.insert(121), BAD_INDEX);
        refusedInUse("6 delete: BAD_INDEX, too small", x -> x.delete(-1, 1), BAD_INDEX);
        refusedInUse("6 delete: BAD_INDEX, too large", x -> x.delete(x.length() + 1, 0), BAD_INDEX);
        refusedInUse("6 delete: BAD_VALUE, below 0", x -> x.delete(1, -1), BAD_VALUE);
        refusedInUse("6 delete: BAD_VALUE, above 120", x -> x.delete(0, 121), BAD_VALUE);
        refusedInUse("6 delete: BAD_VALUE, not so many letters", x -> x.delete(1, x.length()), BAD_VALUE);
        refusedInUse("6 delete: BAD_INDEX before BAD_VALUE, too small", x -> x.delete(-1, -1), BAD_INDEX);
        refusedInUse("6 delete: BAD_INDEX before BAD_VALUE, too large", x -> x.delete(x.length() + 1, 121), BAD_INDEX);
        refusedInUse("6 delete: BAD_INDEX before BAD_VALUE, not so many letters",
            x -> x.delete(x.length() + 1, 1), BAD_INDEX);
    }

    private static void comment() {
        refusedInUse("7 comment: BAD_INDEX, too small", x -> x.comment(-1, 3), BAD_INDEX);
        refusedInUse("7 comment: BAD_INDEX, too large", x -> x.comment(x.length() + 1, x.length() + 2), BAD_INDEX);
        refusedInUse("7 comment: BAD_VALUE, no letters", x -> x.comment(3, 3), BAD_VALUE);
        refusedInUse("7 comment: BAD_VALUE, 17 letters", x -> x.comment(3, 20), BAD_VALUE);
        refusedInUse("7 comment: BAD_VALUE, behind the end", x -> x.comment(x.length() - 1, x.length() + 1), BAD_VALUE);
        refused("7 comment: FULL", Scenes::full, x -> x.comment(1, 2), FULL);
        refusedInUse("7 comment: BAD_INDEX before BAD_VALUE, too small", x -> x.comment(-1, -1), BAD_INDEX);
        refusedInUse("7 comment: BAD_INDEX before BAD_VALUE, too large", x -> x.comment(x.length() + 1, 0), BAD_INDEX);
        refused("7 comment: BAD_INDEX before FULL", Scenes::full, x -> x.comment(-1, 3), BAD_INDEX);
        refused("7 comment: BAD_INDEX before BAD_VALUE and FULL", Scenes::full, x -> x.comment(121, 121), BAD_INDEX);
        refused("7 comment: BAD_VALUE before FULL, no letters", Scenes::full, x -> x.comment(3, 3), BAD_VALUE);
        refused("7 comment: BAD_VALUE before FULL, 17 letters", Scenes::full, x -> x.comment(3, 20), BAD_VALUE);
        refused("7 comment: BAD_VALUE before FULL, behind the end", Scenes::full, x -> x.comment(119, 121), BAD_VALUE);
    }

    private static void removeAndQuote() {
        refusedInUse("8 remove: BAD_INDEX, a removed comment", x -> x.remove(1), BAD_INDEX);
        refusedInUse("8 remove: BAD_INDEX, a merged comment", x -> x.remove(3), BAD_INDEX);
        refusedInUse("8 remove: BAD_INDEX, no comment yet", x -> x.remove(7), BAD_INDEX);
        refusedInUse("9 quoteAnew: BAD_INDEX", x -> x.quoteAnew(1), BAD_INDEX);
        refusedInUse("9 quoteAnew: NOT_POSSIBLE, an ORPHAN with an empty range", x -> x.quoteAnew(0), NOT_POSSIBLE);
        refusedInUse("9 quoteAnew: NOT_POSSIBLE, ATTACHED with more than 16 letters", x -> x.quoteAnew(2), NOT_POSSIBLE);
        refused("9 quoteAnew: NOT_POSSIBLE, an ORPHAN with letters", ORPHANS, x -> x.quoteAnew(5), NOT_POSSIBLE);
        refused("9 quoteAnew: NOT_POSSIBLE, an ORPHAN with more than 16 letters", after(Scenes::used, x -> {
            Check.buffer(x, Scenes.FORTY);
            x.load();
        }), x -> x.quoteAnew(2), NOT_POSSIBLE);
    }

    private static void attach() {
        refusedInUse("10 attach: BAD_INDEX", x -> x.attach(1), BAD_INDEX);
        refusedInUse("10 attach: NOT_POSSIBLE, ATTACHED", x -> x.attach(4), NOT_POSSIBLE);
        refusedInUse("10 attach: NOT_POSSIBLE before NONE, its best score is below the threshold", x -> {
            Check.due("best", x.best(2, 0) < 77 ? 1 : 0, 1);
            return x.attach(2);
        }, NOT_POSSIBLE);
        refusedInUse("10 attach: NONE, the best score is below the threshold", x -> x.attach(0), NONE);
        refused("10 attach: NONE, no candidates", NO_DOCUMENT, x -> x.attach(4), NONE);
    }

    private static void attachAndMergeAll() {
        refused("11 attachAll: NONE, no ORPHANs", NO_ORPHANS, AnchoredComments::attachAll, NONE);
        refused("11 attachAll: NONE, no comments", after(Scenes::used, x -> {
            x.remove(0);
            x.remove(2);
            x.remove(4);
            x.remove(5);
            x.remove(6);
        }), AnchoredComments::attachAll, NONE);
        refusedInUse("12 merge: NONE, none has the range of another one", AnchoredComments::merge, NONE);
        refused("12 merge: NONE, ORPHANs of the same range", NO_DOCUMENT, AnchoredComments::merge, NONE);
        refused("12 merge: NONE, an ORPHAN of the range of another one", after(Scenes::orphaned, x -> x.comment(0, 2)),
            AnchoredComments::merge, NONE);
        refused("12 merge: NONE, the same start and another end", after(Scenes::small, x -> x.comment(0, 1)),
            AnchoredComments::merge, NONE);
        refused("12 merge: NONE, the same end and another start", after(Scenes::small, x -> x.comment(1, 2)),
            AnchoredComments::merge, NONE);
    }

    private static void history() {
        refused("13 undo: NOT_POSSIBLE, a new object", Scenes::fresh, AnchoredComments::undo, NOT_POSSIBLE);
        refused("13 undo: NOT_POSSIBLE, all is undone", after(Scenes::used, Check::states),
            AnchoredComments::undo, NOT_POSSIBLE);
        refused("13 undo: NOT_POSSIBLE, restored", after(Scenes::used, x -> x.restore(0)),
            AnchoredComments::undo, NOT_POSSIBLE);
    }

    private static void listed() {
        refusedInUse("15 letter: BAD_INDEX, too small", x -> x.letter(-1), BAD_INDEX);
        refusedInUse("15 letter: BAD_INDEX, too large", x -> x.letter(x.length()), BAD_INDEX);
        refusedInUse("17 commentAt: BAD_INDEX, too small", x -> x.commentAt(-1), BAD_INDEX);
        refusedInUse("17 commentAt: BAD_INDEX, too large", x -> x.commentAt(x.comments()), BAD_INDEX);
        refusedInUse("18 state: BAD_INDEX", x -> x.state(1), BAD_INDEX);
        refusedInUse("19 range: BAD_INDEX, the start", x -> x.range(1, false), BAD_INDEX);
        refusedInUse("19 range: BAD_INDEX, the end", x -> x.range(1, true), BAD_INDEX);
        refusedInUse("20 weight: BAD_INDEX", x -> x.weight(3), BAD_INDEX);
    }

    private static void quoted() {
        refusedInUse("21 quoted: BAD_INDEX", x -> x.quoted(1, 0, 0), BAD_INDEX);
        refusedInUse("21 quoted: BAD_VALUE, too small", x -> x.quoted(0, -1, 0), BAD_VALUE);
        refusedInUse("21 quoted: BAD_VALUE, too large", x -> x.quoted(0, 3, 0), BAD_VALUE);
        refusedInUse("21 quoted: NONE, too small", x -> x.quoted(0, 1, -1), NONE);
        refusedInUse("21 quoted: NONE, too large", x -> x.quoted(0, 1, 5), NONE);
        refusedInUse("21 quoted: BAD_INDEX before BAD_VALUE", x -> x.quoted(1, 3, 0), BAD_INDEX);
        refusedInUse("21 quoted: BAD_INDEX before NONE", x -> x.quoted(1, 1, -1), BAD_INDEX);
        refusedInUse("21 quoted: BAD_INDEX before BAD_VALUE and NONE", x -> x.quoted(-1, -1, -1), BAD_INDEX);
        refusedInUse("21 quoted: BAD_VALUE before NONE, the part too small", x -> x.quoted(0, -1, -1), BAD_VALUE);
        refusedInUse("21 quoted: BAD_VALUE before NONE, the part too large", x -> x.quoted(0, 3, 16), BAD_VALUE);
    }

    private static void scores() {
        refusedInUse("22 distance: BAD_INDEX", x -> x.distance(1), BAD_INDEX);
        refusedInUse("22 distance: NOT_POSSIBLE, an ORPHAN", x -> x.distance(0), NOT_POSSIBLE);
        refused("22 distance: NOT_POSSIBLE, an ORPHAN with letters", ORPHANS, x -> x.distance(5), NOT_POSSIBLE);
        refusedInUse("23 score: BAD_INDEX, no such comment", x -> x.score(1, 0, 1), BAD_INDEX);
        refusedInUse("23 score: BAD_INDEX, the start too small", x -> x.score(0, -1, 1), BAD_INDEX);
        refusedInUse("23 score: BAD_INDEX, the start too large",
            x -> x.score(0, x.length() + 1, x.length() + 2), BAD_INDEX);
        refusedInUse("23 score: BAD_VALUE, no letters", x -> x.score(0, 3, 3), BAD_VALUE);
        refusedInUse("23 score: BAD_VALUE, 31 letters", x -> x.score(0, 3, 34), BAD_VALUE);
        refusedInUse("23 score: BAD_VALUE, behind the end", x -> x.score(0, x.length() - 1, x.length() + 1), BAD_VALUE);
        refusedInUse("23 score: BAD_INDEX before BAD_VALUE, no such comment", x -> x.score(1, 3, 3), BAD_INDEX);
        refusedInUse("23 score: BAD_INDEX before BAD_VALUE, the start too small", x -> x.score(0, -1, -1), BAD_INDEX);
        refusedInUse("23 score: BAD_INDEX before BAD_VALUE, the start too large",
            x -> x.score(0, x.length() + 1, 0), BAD_INDEX);
        refusedInUse("23 score: BAD_INDEX, no such comment and the start too small", x -> x.score(1, -1, -1), BAD_INDEX);
        refusedInUse("24 best: BAD_INDEX", x -> x.best(1, 0), BAD_INDEX);
        refusedInUse("24 best: BAD_VALUE, too small", x -> x.best(0, -1), BAD_VALUE);
        refusedInUse("24 best: BAD_VALUE, too large", x -> x.best(0, 3), BAD_VALUE);
        refused("24 best: NONE", NO_DOCUMENT, x -> x.best(4, 0), NONE);
        refusedInUse("24 best: BAD_INDEX before BAD_VALUE", x -> x.best(1, 3), BAD_INDEX);
        refused("24 best: BAD_INDEX before NONE", NO_DOCUMENT, x -> x.best(1, 0), BAD_INDEX);
        refused("24 best: BAD_VALUE before NONE, too small", NO_DOCUMENT, x -> x.best(4, -1), BAD_VALUE);
        refused("24 best: BAD_VALUE before NONE, too large", NO_DOCUMENT, x -> x.best(4, 3), BAD_VALUE);
    }

    private static void overlapAndCovering() {
        refusedInUse("25 overlap: BAD_INDEX, the first", x -> x.overlap(1, 0), BAD_INDEX);
        refusedInUse("25 overlap: BAD_INDEX, the other", x -> x.overlap(0, 1), BAD_INDEX);
        refusedInUse("25 overlap: BAD_INDEX, both", x -> x.overlap(1, 3), BAD_INDEX);
        refusedInUse("26 covering: BAD_INDEX, no such letter", x -> x.covering(x.length(), 0), BAD_INDEX);
        refusedInUse("26 covering: BAD_INDEX, the rank is negative", x -> x.covering(4, -1), BAD_INDEX);
        refusedInUse("26 covering: NONE", x -> x.covering(4, 9), NONE);
        refusedInUse("26 covering: BAD_INDEX before NONE, no such letter", x -> x.covering(-1, 9), BAD_INDEX);
        refused("26 covering: BAD_INDEX before NONE, the rank is negative where no comment is", document("abc"),
            x -> x.covering(0, -1), BAD_INDEX);
        refusedInUse("26 covering: BAD_INDEX, no such letter and a negative rank", x -> x.covering(-1, -1), BAD_INDEX);
    }

    private static void kept() {
        refusedInUse("27 setThreshold: BAD_VALUE, too small", x -> x.setThreshold(-1), BAD_VALUE);
        refusedInUse("27 setThreshold: BAD_VALUE, too large", x -> x.setThreshold(109), BAD_VALUE);
        refused("28 save: BAD_INDEX, and the slots stay empty", document("abc"), x -> x.save(2), BAD_INDEX);
        refused("28 save: BAD_INDEX, and the slots keep what they have", Scenes::used, x -> x.save(-1), BAD_INDEX);
        refused("29 restore: BAD_INDEX before NOT_POSSIBLE, too small", Scenes::fresh, x -> x.restore(-1), BAD_INDEX);
        refused("29 restore: BAD_INDEX before NOT_POSSIBLE, too large", Scenes::fresh, x -> x.restore(2), BAD_INDEX);
        refused("29 restore: BAD_INDEX, and the history stays", Scenes::used, x -> x.restore(2), BAD_INDEX);
        refused("29 restore: NOT_POSSIBLE, and the history stays", Scenes::full, x -> x.restore(1), NOT_POSSIBLE);
    }

    /** A question that is answered changes nothing, either; nor does it count as a call that is recorded. */
    private static void questions() {
        question("14 length", AnchoredComments::length);
        question("15 letter", x -> x.letter(3));
        question("16 comments", AnchoredComments::comments);
        question("17 commentAt", x -> x.commentAt(1));
        question("18 state", x -> x.state(0));
        question("19 range", x -> x.range(2, true));
        question("20 weight", x -> x.weight(2));
        question("21 quoted", x -> x.quoted(4, 0, 0));
        question("22 distance", x -> x.distance(2));
        question("23 score", x -> x.score(4, 4, 9));
        question("24 best", x -> x.best(0, 1));
        question("25 overlap", x -> x.overlap(2, 4));
        question("26 covering", x -> x.covering(5, 0));
        question("30 checksum", x -> x.checksum() == 0 ? -1 : 1);
    }

    private static void question(String name, ToIntFunction<AnchoredComments> call) {
        test(name + ": the question changes nothing", () -> {
            Check.due("no error", call.applyAsInt(Scenes.used()) >= 0 ? 1 : 0, 1);
            changesNothing(Scenes::used, call);
        });
    }
}
