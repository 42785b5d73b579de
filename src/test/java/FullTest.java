/** Full: the buffer, the document, the comments and their parts, the history. */
public final class FullTest extends Cases {
    private static final String LONG = "abcdefghijklmnopqrstuvwxyz";

    public static void main(String[] args) {
        buffer();
        document();
        documentOfMany();
        comments();
        roomAgain();
        tenComments();
        longestQuote();
        longestRange();
        history();
        historyOfManyCalls();
        slots();
        Check.finish();
    }

    private static void buffer() {
        answers("2 type: the 40th letter", after(Scenes::full, x -> {
            Check.buffer(x, Scenes.FORTY.substring(1));
        }), x -> x.type('a'), 40);
        refused("2 type: the 41st letter", Scenes::full, x -> x.type('a'), FULL);
        refused("2 type: the 41st letter, and a wrong one", Scenes::full, x -> x.type(127), BAD_VALUE);
        refused("2 type: the 41st letter, and one too small", Scenes::full, x -> x.type(31), BAD_VALUE);
        answers("2 type: a full buffer stays full when it is inserted", after(Scenes::fresh, x -> {
            Check.buffer(x, Scenes.FORTY);
            x.insert(0);
        }), x -> x.type('a'), FULL);
        answers("2 type: a full buffer stays full when it is loaded", after(Scenes::fresh, x -> {
            Check.buffer(x, Scenes.FORTY);
            x.load();
        }), x -> x.type('a'), FULL);
        answers("3 clearBuffer: a full buffer", Scenes::full, AnchoredComments::clearBuffer, 40);
        answers("2 type: a full buffer that was cleared has room", after(Scenes::full, AnchoredComments::clearBuffer),
            x -> x.type('a'), 1);
        test("4 load: a full buffer", () -> {
            AnchoredComments x = new AnchoredComments();
            Check.buffer(x, Scenes.FORTY);
            Check.due("load", x.load(), 0);
            Check.due("the document", Check.document(x), Scenes.FORTY);
        });
    }

    private static void document() {
        test("5 insert: 40 letters make it 120", () -> {
            AnchoredComments x = Scenes.full();
            x.delete(20, 40);
            Check.due("insert", x.insert(20), 120);
            Check.due("the document", Check.document(x),
                Scenes.FORTY.substring(0, 20) + Scenes.FORTY + Scenes.FORTY.substring(20) + Scenes.FORTY);
        });
        refused("5 insert: 40 letters would make it 121", after(Scenes::full, x -> x.delete(0, 39)), x -> x.insert(0), FULL);
        answers("5 insert: 1 letter makes it 120", after(Scenes::full, x -> {
            x.delete(0, 1);
            Check.buffer(x, "z");
        }), x -> x.insert(119), 120);
        refused("5 insert: 2 letters would make it 121", after(Scenes::full, x -> {
            x.delete(0, 1);
            Check.buffer(x, "zz");
        }), x -> x.insert(119), FULL);
        refused("5 insert: 1 letter at the start of 120", after(Scenes::full, x -> Check.buffer(x, "z")),
            x -> x.insert(0), FULL);
        refused("5 insert: 1 letter at the end of 120", after(Scenes::full, x -> Check.buffer(x, "z")),
            x -> x.insert(120), FULL);
        answers("5 insert: nothing into 120", after(Scenes::full, AnchoredComments::clearBuffer), x -> x.insert(60), 120);
        answers("5 insert: nothing at the end of 120", after(Scenes::full, AnchoredComments::clearBuffer),
            x -> x.insert(120), 120);
        refused("5 insert: no room, and the position -1", Scenes::full, x -> x.insert(-1), BAD_INDEX);
        refused("5 insert: no room, and the position 121", Scenes::full, x -> x.insert(121), BAD_INDEX);
        answers("4 load: in place of 120 letters", Scenes::full, AnchoredComments::load, 120);
        answers("14 length: 120 letters", Scenes::full, AnchoredComments::length, 120);
        answers("6 delete: all comments of a full document", Scenes::full, x -> x.delete(0, 120), 10);
        answers("6 delete: all of a full document but the last letter", Scenes::full, x -> x.delete(0, 119), 10);
    }

    private static void documentOfMany() {
        test("5 insert: letter by letter up to 120, and not one more", () -> {
            AnchoredComments x = new AnchoredComments();
            x.type('q');
            for (int length = 1; length <= 120; length++) {
                Check.due("insert", x.insert(length / 2), length);
            }
            Check.due("one more", x.insert(60), FULL);
            Check.due("length", x.length(), 120);
        });
    }

    private static void comments() {
        test("7 comment: ten, and not one more", () -> {
            AnchoredComments x = Check.with(LONG);
            for (int number = 0; number < 10; number++) {
                Check.due("comment", x.comment(number, number + 1), number);
            }
            Check.due("one more", x.comment(0, 1), FULL);
            Check.due("comments", x.comments(), 10);
        });
        refused("7 comment: an eleventh", Scenes::full, x -> x.comment(5, 6), FULL);
        refused("7 comment: an eleventh of the range of another one", Scenes::full, x -> x.comment(0, 3), FULL);
        refused("7 comment: an eleventh, and a wrong start", Scenes::full, x -> x.comment(-1, 1), BAD_INDEX);
        refused("7 comment: an eleventh, and a start too large", Scenes::full, x -> x.comment(121, 122), BAD_INDEX);
        refused("7 comment: an eleventh, and no letters", Scenes::full, x -> x.comment(5, 5), BAD_VALUE);
        refused("7 comment: an eleventh, and 17 letters", Scenes::full, x -> x.comment(5, 22), BAD_VALUE);
        refused("7 comment: an eleventh where all are ORPHANs", after(Scenes::full, AnchoredComments::load),
            x -> x.comment(0, 1), FULL);
    }

    private static void roomAgain() {
        answers("7 comment: room after remove(), and no number twice", after(Scenes::full, x -> x.remove(9)),
            x -> x.comment(0, 1), 10);
        answers("7 comment: only one has room after remove()", after(Scenes::full, x -> {
            x.remove(0);
            x.comment(0, 1);
        }), x -> x.comment(0, 1), FULL);
        answers("7 comment: room after merge(), and no number twice", after(Scenes::full, x -> {
            x.remove(9);
            x.comment(0, 3);
            x.merge();
        }), x -> x.comment(0, 1), 11);
        answers("7 comment: room after undo(), which brings the number back", after(Scenes::full, AnchoredComments::undo),
            x -> x.comment(0, 1), 9);
        answers("7 comment: room after restore(), which brings the number back", after(document(LONG), x -> {
            x.save(1);
            for (int i = 0; i < 10; i++) {
                x.comment(i, i + 1);
            }
            x.restore(1);
        }), x -> x.comment(0, 1), 0);
        refused("7 comment: no room after restore() of ten", after(Scenes::full, x -> {
            x.remove(3);
            x.restore(0);
        }), x -> x.comment(0, 1), FULL);
        refused("7 comment: no room after undo() of remove()", after(Scenes::full, x -> {
            x.remove(3);
            x.undo();
        }), x -> x.comment(0, 1), FULL);
    }

    private static void tenComments() {
        answers("8 remove: one of ten", Scenes::full, x -> x.remove(9), 9);
        answers("16 comments: ten", Scenes::full, AnchoredComments::comments, 10);
        test("17 commentAt: ten in ascending order, the lowest removed and a new one made", () -> {
            AnchoredComments x = Scenes.full();
            x.remove(0);
            x.comment(0, 1);
            for (int index = 0; index < 10; index++) {
                Check.due("commentAt " + index, x.commentAt(index), index + 1);
            }
        });
        test("26 covering: ten comments cover a letter", () -> {
            AnchoredComments x = Check.with(LONG);
            int[] ends = {8, 6, 8, 9, 7, 6, 9, 8, 7, 6};
            for (int i = 0; i < 10; i++) {
                x.comment(i < 5 ? 3 : 2, ends[i]);
            }
            int[] due = {6, 7, 8, 5, 9, 3, 0, 2, 4, 1};
            for (int rank = 0; rank < 10; rank++) {
                Check.due("rank " + rank, x.covering(5, rank), due[rank]);
            }
            Check.due("rank 10", x.covering(5, 10), NONE);
        });
        test("12 merge: ten comments of one range", () -> {
            AnchoredComments x = Check.with(LONG);
            for (int i = 0; i < 10; i++) {
                x.comment(4, 5);
            }
            Check.due("merge", x.merge(), 9);
            Check.due("comments", x.comments(), 1);
            Check.due("weight", x.weight(0), 10);
        });
        test("11 attachAll: ten ORPHANs", () -> {
            AnchoredComments x = Check.with(LONG);
            for (int i = 0; i < 10; i++) {
                x.comment(2 * i, 2 * i + 2);
            }
            Check.load(x, "....." + LONG);
            Check.due("attachAll", x.attachAll(), 10);
            for (int i = 0; i < 10; i++) {
                Check.due("range " + i, Check.range(x, i), (5 + 2 * i) + "-" + (7 + 2 * i));
            }
        });
    }

    private static void longestQuote() {
        test("9 quoteAnew: a range of 16 letters", () -> {
            AnchoredComments x = Check.with("....." + LONG);
            x.comment(10, 12);
            Check.insert(x, 11, "01234567890123");
            Check.due("range", Check.range(x, 0), "10-26");
            Check.due("quoteAnew", x.quoteAnew(0), 16);
            Check.due("what it quotes", Check.quotes(x, 0), ".abcde|f01234567890123g|hijklm");
        });
        refused("9 quoteAnew: a range of 17 letters", after(document("....." + LONG), x -> {
            x.comment(10, 12);
            Check.insert(x, 11, "012345678901234");
        }), x -> x.quoteAnew(0), NOT_POSSIBLE);
        test("7 comment: a prefix of 5, 6 and of more letters", () -> {
            AnchoredComments x = Check.with(LONG);
            x.comment(5, 6);
            x.comment(6, 7);
            x.comment(7, 8);
            Check.due("5", Check.part(x, 0, 0), "abcde");
            Check.due("6", Check.part(x, 1, 0), "abcdef");
            Check.due("the last 6 of 7", Check.part(x, 2, 0), "bcdefg");
        });
        test("7 comment: a suffix of 5, 6 and of more letters", () -> {
            AnchoredComments x = Check.with(LONG);
            x.comment(20, 21);
            x.comment(19, 20);
            x.comment(18, 19);
            Check.due("5", Check.part(x, 0, 2), "vwxyz");
            Check.due("6", Check.part(x, 1, 2), "uvwxyz");
            Check.due("the first 6 of 7", Check.part(x, 2, 2), "tuvwxy");
        });
    }

    private static AnchoredComments ofRange120() {
        AnchoredComments x = Check.with("ab");
        x.comment(0, 2);
        Check.insert(x, 1, Scenes.FORTY.substring(0, 38));
        Check.insert(x, 20, Scenes.FORTY);
        x.insert(60);
        return x;
    }

    private static void longestRange() {
        answers("19 range: the end of a range of 120 letters", FullTest::ofRange120, x -> x.range(0, true), 120);
        answers("19 range: the start of a range of 120 letters", FullTest::ofRange120, x -> x.range(0, false), 0);
        answers("22 distance: a range of 120 letters", FullTest::ofRange120, x -> x.distance(0), 118);
        answers("25 overlap: 120 letters", FullTest::ofRange120, x -> x.overlap(0, 0), 120);
        answers("26 covering: the last of 120 letters", FullTest::ofRange120, x -> x.covering(119, 0), 0);
        refused("9 quoteAnew: a range of 120 letters", FullTest::ofRange120, x -> x.quoteAnew(0), NOT_POSSIBLE);
        answers("22 distance: a quote of 16 letters, none of them in a range of 1", after(document(LONG), x -> {
            x.comment(0, 16);
            Check.insert(x, 1, "Z");
            x.delete(0, 1);
            x.delete(1, 15);
        }), x -> x.distance(0), 16);
        answers("23 score: a quote of 16 letters and 30 others", after(document(LONG), x -> {
            x.comment(0, 16);
            Check.load(x, Scenes.FORTY.toUpperCase());
        }), x -> x.score(0, 0, 30), 60 - 300);
        answers("23 score: all alike, a full prefix and a full suffix, make 108", after(document(LONG),
            x -> x.comment(6, 20)), x -> x.score(0, 6, 20), 108);
        answers("10 attach: a score of 108 reaches the greatest threshold", after(document(LONG), x -> {
            x.comment(6, 20);
            x.setThreshold(108);
            x.load();
        }), x -> x.attach(0), 6);
    }

    private static void history() {
        test("13 undo: 6 states are kept", () -> {
            AnchoredComments x = new AnchoredComments();
            x.type('a');
            for (int i = 0; i < 6; i++) {
                x.insert(0);
            }
            for (int left = 5; left >= 0; left--) {
                Check.due("undo", x.undo(), left);
                Check.due("length", x.length(), left);
            }
            Check.due("one more", x.undo(), NOT_POSSIBLE);
        });
        test("13 undo: of 7 states the oldest one is dropped", () -> {
            AnchoredComments x = new AnchoredComments();
            x.type('a');
            for (int i = 0; i < 7; i++) {
                x.insert(0);
            }
            for (int left = 5; left >= 0; left--) {
                Check.due("undo", x.undo(), left);
                Check.due("length", x.length(), left + 1);
            }
            Check.due("one more", x.undo(), NOT_POSSIBLE);
            Check.due("length", x.length(), 1);
        });
        test("13 undo: a full history after an undo() has room for one", () -> {
            AnchoredComments x = Scenes.full();
            x.undo();
            x.delete(0, 1);
            Check.due("undo", x.undo(), 5);
            Check.due("length", x.length(), 120);
        });
    }

    private static void historyOfManyCalls() {
        test("13 undo: after 100 calls that are recorded, 6 states are kept", () -> {
            AnchoredComments x = new AnchoredComments();
            x.type('a');
            for (int length = 1; length <= 100; length++) {
                x.insert(0);
            }
            for (int left = 5; left >= 0; left--) {
                Check.due("undo", x.undo(), left);
                Check.due("length", x.length(), 94 + left);
            }
            Check.due("one more", x.undo(), NOT_POSSIBLE);
        });
        test("13 undo: a full document and ten comments come back", () -> {
            AnchoredComments x = Scenes.full();
            long sum = x.checksum();
            x.load();
            x.clearBuffer();
            x.load();
            x.remove(0);
            x.undo();
            x.undo();
            Check.due("undo", x.undo(), 3);
            Check.due("checksum", x.checksum(), sum);
        });
    }

    private static void slots() {
        answers("28 save: ten comments", Scenes::full, x -> x.save(1), 10);
        test("29 restore: a full document, ten comments", () -> {
            AnchoredComments x = Scenes.full();
            long sum = x.checksum();
            x.clearBuffer();
            x.load();
            x.remove(5);
            x.setThreshold(0);
            Check.due("restore", x.restore(0), 10);
            Check.due("checksum", x.checksum(), sum);
            Check.due("threshold", x.setThreshold(0), 33);
        });
        answers("29 restore: of a full history nothing is left", after(Scenes::full, x -> x.restore(0)),
            AnchoredComments::undo, NOT_POSSIBLE);
    }
}
