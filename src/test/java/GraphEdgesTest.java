/** Promises 1 to 5, sentence by sentence: a new object, cover, join, mark, bar. */
public final class GraphEdgesTest {
    private static final int MIN = Integer.MIN_VALUE;
    private static final int MAX = Integer.MAX_VALUE;
    private static final Class<?> NO_PIECE = IndexOutOfBoundsException.class;
    private static final Class<?> WRONG = IllegalArgumentException.class;

    public static void main(String[] args) {
        newObject();
        cover();
        coverRefuses();
        join();
        joinRefuses();
        mark();
        markRefuses();
        bar();
        barRefuses();
        Due.close("GraphEdgesTest");
    }

    private static void newObject() {
        Due.test("Promise 1: NONE is -1", () -> Due.equal("NONE", CoverWays.NONE, -1));
        Due.test("Promise 1: a new graph has no joins", () -> {
            CoverWays x = new CoverWays();
            Due.equal("count(0)", x.count(0), 0);
            for (int from = 0; from < 9; from++) {
                for (int to = 0; to < 9; to++) {
                    Due.equal("isJoined(" + from + ", " + to + ")", x.isJoined(from, to), 0);
                }
            }
        });
        Due.test("Promise 1: both slots are empty", () -> {
            Due.refusedOn(Made::fresh, IllegalStateException.class, "goBack(0)", x -> x.goBack(0));
            Due.refusedOn(Made::fresh, IllegalStateException.class, "goBack(1)", x -> x.goBack(1));
        });
        Due.test("Promise 1: the buffer is empty", () -> {
            Due.equal("clearBuffer()", new CoverWays().clearBuffer(), 0);
            Due.equal("firstError()", new CoverWays().firstError(), 0);
            Due.equal("append('c')", new CoverWays().append('c'), 1);
        });
        Due.test("Promise 1: nothing is saved, noted or counted", () -> {
            CoverWays x = new CoverWays();
            for (int what : new int[] {1, 2, 3, 4, 5, 6, 9, 10, 11}) {
                Due.equal("count(" + what + ")", x.count(what), 0);
            }
            Due.refusedOn(Made::fresh, IllegalStateException.class, "undo()", y -> y.undo());
        });
        Due.test("Promise 1: objects do not share their state", () -> {
            CoverWays x = new CoverWays();
            CoverWays other = Made.full();
            other.keep(0);
            Due.alike("a new object beside a full one", x, new CoverWays());
        });
    }

    private static void cover() {
        Due.test("Promise 2: the first piece and the last one are taken", () -> {
            CoverWays x = new CoverWays();
            Due.equal("cover(0, 5)", x.cover(0, 5), 0);
            Due.equal("cover(8, 6)", x.cover(8, 6), 0);
            Due.equal("pieceOf(0, 0)", x.pieceOf(0, 0), 5);
            Due.equal("pieceOf(8, 0)", x.pieceOf(8, 0), 6);
        });
        Due.test("Promise 2: the covers 0 and 999 are taken; the cover before is returned", () -> {
            CoverWays x = new CoverWays();
            Due.equal("cover(3, 999)", x.cover(3, 999), 0);
            Due.equal("cover(3, 999) as it is", x.cover(3, 999), 999);
            Due.equal("cover(3, 0)", x.cover(3, 0), 999);
            Due.equal("cover(3, 1)", x.cover(3, 1), 0);
        });
        Due.test("Promise 2: the cover before is returned, not the rest", () -> {
            CoverWays x = Made.stepped();
            Due.equal("cover(2, 7)", x.cover(2, 7), 6);
        });
        Due.test("Promise 2: the rest is the new cover", () -> {
            CoverWays x = Made.stepped();
            x.cover(2, 7);
            Due.equal("pieceOf(2, 1)", x.pieceOf(2, 1), 7);
            Due.equal("pieceOf(0, 1)", x.pieceOf(0, 1), 10);
        });
        Due.undoableTest("Promise 2", "cover(4, 500)", x -> x.cover(4, 500));
        Due.undoableTest("Promise 2", "cover(7, 0), which changes nothing,", x -> x.cover(7, 0));
    }

    private static void coverRefuses() {
        Due.refusedTest("Promise 2", NO_PIECE, "cover(-1, 0)", x -> x.cover(-1, 0));
        Due.refusedTest("Promise 2", NO_PIECE, "cover(9, 999)", x -> x.cover(9, 999));
        Due.refusedTest("Promise 2", NO_PIECE, "cover(MIN, 1)", x -> x.cover(MIN, 1));
        Due.refusedTest("Promise 2", NO_PIECE, "cover(MAX, 1)", x -> x.cover(MAX, 1));
        Due.refusedTest("Promise 2", WRONG, "cover(0, -1)", x -> x.cover(0, -1));
        Due.refusedTest("Promise 2", WRONG, "cover(8, 1000)", x -> x.cover(8, 1000));
        Due.refusedTest("Promise 2", WRONG, "cover(4, MIN)", x -> x.cover(4, MIN));
        Due.refusedTest("Promise 2", WRONG, "cover(4, MAX)", x -> x.cover(4, MAX));
        Due.refusedTest("Promise 2, both apply", NO_PIECE, "cover(-1, -1)", x -> x.cover(-1, -1));
        Due.refusedTest("Promise 2, both apply", NO_PIECE, "cover(9, 1000)", x -> x.cover(9, 1000));
    }

    private static void join() {
        Due.test("Promise 3: it makes a join, or takes it away, if there is one", () -> {
            CoverWays x = new CoverWays();
            Due.equal("join(2, 5)", x.join(2, 5), 1);
            Due.equal("isJoined(2, 5)", x.isJoined(2, 5), 1);
            Due.equal("join(2, 5) again", x.join(2, 5), 0);
            Due.equal("isJoined(2, 5)", x.isJoined(2, 5), 0);
            Due.equal("join(2, 5) once more", x.join(2, 5), 1);
        });
        Due.test("Promise 3: other joins of the same pieces stay", () -> {
            CoverWays x = new CoverWays();
            x.join(2, 4);
            x.join(2, 6);
            x.join(3, 5);
            x.join(1, 5);
            x.join(2, 5);
            x.join(2, 5);
            Due.equal("count(0)", x.count(0), 4);
            Due.equal("isJoined(2, 6)", x.isJoined(2, 6), 1);
            Due.equal("isJoined(3, 5)", x.isJoined(3, 5), 1);
        });
        Due.test("Promise 3: the edges of pieces are taken, and the next greater piece", () -> {
            CoverWays x = new CoverWays();
            Due.equal("join(0, 8)", x.join(0, 8), 1);
            Due.equal("join(0, 1)", x.join(0, 1), 1);
            Due.equal("join(7, 8)", x.join(7, 8), 1);
            Due.equal("count(0)", x.count(0), 3);
        });
        Due.undoableTest("Promise 3", "join(5, 6)", x -> x.join(5, 6));
        Due.undoableTest("Promise 3", "join(0, 1)", x -> x.join(0, 1));
        Due.test("Promise 3: a join that is taken away comes back by undo()", () -> {
            CoverWays x = Made.loaded();
            Due.equal("join(0, 1)", x.join(0, 1), 0);
            x.undo();
            Due.equal("isJoined(0, 1)", x.isJoined(0, 1), 1);
        });
    }

    private static void joinRefuses() {
        Due.refusedTest("Promise 3", NO_PIECE, "join(-1, 0)", x -> x.join(-1, 0));
        Due.refusedTest("Promise 3", NO_PIECE, "join(8, 9)", x -> x.join(8, 9));
        Due.refusedTest("Promise 3", NO_PIECE, "join(0, MAX)", x -> x.join(0, MAX));
        Due.refusedTest("Promise 3", NO_PIECE, "join(MIN, 3)", x -> x.join(MIN, 3));
        Due.refusedTest("Promise 3", WRONG, "join(0, 0)", x -> x.join(0, 0));
        Due.refusedTest("Promise 3", WRONG, "join(8, 8)", x -> x.join(8, 8));
        Due.refusedTest("Promise 3", WRONG, "join(1, 0)", x -> x.join(1, 0));
        Due.refusedTest("Promise 3", WRONG, "join(8, 7)", x -> x.join(8, 7));
        Due.refusedTest("Promise 3", WRONG, "join(8, 0)", x -> x.join(8, 0));
        Due.refusedTest("Promise 3, both apply", NO_PIECE, "join(0, -1)", x -> x.join(0, -1));
        Due.refusedTest("Promise 3, both apply", NO_PIECE, "join(9, 0)", x -> x.join(9, 0));
        Due.refusedTest("Promise 3, both apply", NO_PIECE, "join(9, 9)", x -> x.join(9, 9));
        Due.refusedTest("Promise 3, both apply", NO_PIECE, "join(-1, -1)", x -> x.join(-1, -1));
    }

    private static void mark() {
        Due.test("Promise 4: 0 to 3 are taken; what it was is returned", () -> {
            CoverWays x = new CoverWays();
            Due.equal("mark(4, 3)", x.mark(4, 3), 0);
            Due.equal("mark(4, 2)", x.mark(4, 2), 3);
            Due.equal("mark(4, 1)", x.mark(4, 1), 2);
            Due.equal("mark(4, 1) as it is", x.mark(4, 1), 1);
            Due.equal("mark(4, 0)", x.mark(4, 0), 1);
            Due.equal("pieceOf(4, 2)", x.pieceOf(4, 2), 0);
        });
        Due.test("Promise 4: the first piece and the last one are taken", () -> {
            CoverWays x = new CoverWays();
            Due.equal("mark(0, 0)", x.mark(0, 0), 1);
            Due.equal("mark(8, 3)", x.mark(8, 3), 2);
            Due.equal("pieceOf(0, 2)", x.pieceOf(0, 2), 0);
            Due.equal("pieceOf(8, 2)", x.pieceOf(8, 2), 3);
        });
        Due.test("Promise 4: 0 neither, 1 a start, 2 an end, 3 both", () -> {
            // 0 4 8 always; 0 4 if 4 is an end; 4 8 if it is a start; 4 if it is both.
            int[] ways = {1, 2, 2, 4};
            for (int what = 0; what < 4; what++) {
                CoverWays x = Due.loaded("s0;e8;j04;j48");
                x.mark(4, what);
                Due.equal("count(5) with 4 marked " + what, x.count(5), ways[what]);
                Due.equal("openWay(..) with 4 marked " + what, x.openWay(what == 1 ? 1 : 0),
                        what == 1 ? Due.mask(4, 8) : what == 0 ? Due.mask(0, 4, 8) : Due.mask(0, 4));
            }
        });
        Due.undoableTest("Promise 4", "mark(3, 3)", x -> x.mark(3, 3));
        Due.undoableTest("Promise 4", "mark(8, 2), which changes nothing,", x -> x.mark(8, 2));
    }

    private static void markRefuses() {
        Due.refusedTest("Promise 4", NO_PIECE, "mark(-1, 0)", x -> x.mark(-1, 0));
        Due.refusedTest("Promise 4", NO_PIECE, "mark(9, 3)", x -> x.mark(9, 3));
        Due.refusedTest("Promise 4", NO_PIECE, "mark(MIN, 1)", x -> x.mark(MIN, 1));
        Due.refusedTest("Promise 4", NO_PIECE, "mark(MAX, 1)", x -> x.mark(MAX, 1));
        Due.refusedTest("Promise 4", WRONG, "mark(0, -1)", x -> x.mark(0, -1));
        Due.refusedTest("Promise 4", WRONG, "mark(8, 4)", x -> x.mark(8, 4));
        Due.refusedTest("Promise 4", WRONG, "mark(4, MIN)", x -> x.mark(4, MIN));
        Due.refusedTest("Promise 4", WRONG, "mark(4, MAX)", x -> x.mark(4, MAX));
        Due.refusedTest("Promise 4, both apply", NO_PIECE, "mark(-1, -1)", x -> x.mark(-1, -1));
        Due.refusedTest("Promise 4, both apply", NO_PIECE, "mark(9, 4)", x -> x.mark(9, 4));
    }

    private static void bar() {
        Due.test("Promise 5: two pieces bar one another, or no longer, if they do", () -> {
            CoverWays x = new CoverWays();
            Due.equal("bar(2, 6)", x.bar(2, 6), 1);
            Due.equal("pieceOf(2, 7)", x.pieceOf(2, 7), Due.mask(6));
            Due.equal("pieceOf(6, 7)", x.pieceOf(6, 7), Due.mask(2));
            Due.equal("bar(2, 6) again", x.bar(2, 6), 0);
            Due.equal("pieceOf(2, 7)", x.pieceOf(2, 7), 0);
            Due.equal("pieceOf(6, 7)", x.pieceOf(6, 7), 0);
        });
        Due.test("Promise 5: the other one may be the lesser one; both ways round it is the same bar", () -> {
            CoverWays x = new CoverWays();
            Due.equal("bar(8, 0)", x.bar(8, 0), 1);
            Due.equal("pieceOf(0, 7)", x.pieceOf(0, 7), Due.mask(8));
            Due.equal("bar(0, 8)", x.bar(0, 8), 0);
            Due.equal("bar(0, 8) again", x.bar(0, 8), 1);
            Due.equal("bar(8, 0) again", x.bar(8, 0), 0);
        });
        Due.test("Promise 5: other bars of the same pieces stay", () -> {
            CoverWays x = new CoverWays();
            x.bar(2, 6);
            x.bar(2, 7);
            x.bar(1, 6);
            x.bar(6, 2);
            Due.equal("pieceOf(2, 7)", x.pieceOf(2, 7), Due.mask(7));
            Due.equal("pieceOf(6, 7)", x.pieceOf(6, 7), Due.mask(1));
        });
        Due.undoableTest("Promise 5", "bar(5, 6)", x -> x.bar(5, 6));
        Due.undoableTest("Promise 5", "bar(4, 3)", x -> x.bar(4, 3));
    }

    private static void barRefuses() {
        Due.refusedTest("Promise 5", NO_PIECE, "bar(-1, 0)", x -> x.bar(-1, 0));
        Due.refusedTest("Promise 5", NO_PIECE, "bar(0, -1)", x -> x.bar(0, -1));
        Due.refusedTest("Promise 5", NO_PIECE, "bar(9, 8)", x -> x.bar(9, 8));
        Due.refusedTest("Promise 5", NO_PIECE, "bar(8, 9)", x -> x.bar(8, 9));
        Due.refusedTest("Promise 5", NO_PIECE, "bar(MIN, 1)", x -> x.bar(MIN, 1));
        Due.refusedTest("Promise 5", NO_PIECE, "bar(1, MAX)", x -> x.bar(1, MAX));
        for (int piece = 0; piece < 9; piece++) {
            int same = piece;
            Due.refusedTest("Promise 5", WRONG, "bar(" + piece + ", " + piece + ")", x -> x.bar(same, same));
        }
        Due.refusedTest("Promise 5, both apply", NO_PIECE, "bar(9, 9)", x -> x.bar(9, 9));
        Due.refusedTest("Promise 5, both apply", NO_PIECE, "bar(-1, -1)", x -> x.bar(-1, -1));
    }
}
