/** Promises 13 to 15 and the term of snapshots and undo, sentence by sentence. */
public final class SnapshotEdgesTest {
    private static final int MIN = Integer.MIN_VALUE;
    private static final int MAX = Integer.MAX_VALUE;
    private static final Class<?> WRONG = IllegalArgumentException.class;
    private static final Class<?> NONE_THERE = IllegalStateException.class;

    public static void main(String[] args) {
        keep();
        keepTakesAll();
        goBack();
        goBackRestoresAll();
        goBackRefuses();
        undo();
        undoRestoresAll();
        sixStates();
        whatSaves();
        whatSavesNothing();
        Due.close("SnapshotEdgesTest");
    }

    private static void keep() {
        Due.test("Promise 13: how many joins there are is returned (0, 4, 36)", () -> {
            Due.equal("keep(0)", new CoverWays().keep(0), 0);
            Due.equal("keep(1)", Made.loaded().keep(1), 4);
            CoverWays x = new CoverWays();
            for (int from = 0; from < 9; from++) {
                for (int to = from + 1; to < 9; to++) {
                    x.join(from, to);
                }
            }
            Due.equal("keep(1) of all", x.keep(1), 36);
        });
        Due.test("Promise 13: a snapshot takes the place of the one in the slot", () -> {
            CoverWays x = Made.loaded();
            x.keep(0);
            x.cover(3, 33);
            x.keep(0);
            x.cover(3, 44);
            x.goBack(0);
            Due.equal("pieceOf(3, 0)", x.pieceOf(3, 0), 33);
        });
        Due.test("Snapshots: there are two slots, each with its own snapshot", () -> {
            CoverWays x = new CoverWays();
            x.cover(3, 1);
            x.keep(0);
            x.cover(3, 2);
            x.keep(1);
            x.cover(3, 3);
            x.goBack(0);
            Due.equal("pieceOf(3, 0) of the slot 0", x.pieceOf(3, 0), 1);
            x.goBack(1);
            Due.equal("pieceOf(3, 0) of the slot 1", x.pieceOf(3, 0), 2);
            x.keep(0);
            x.cover(3, 4);
            x.keep(1);
            x.goBack(0);
            Due.equal("pieceOf(3, 0) of the slot 0", x.pieceOf(3, 0), 2);
        });
        Due.test("Promise 13: it is not undoable, and undo() leaves the slots", () -> {
            CoverWays x = Made.loaded();
            x.keep(0);
            Due.equal("count(11)", x.count(11), 1);
            x.cover(3, 5);
            x.keep(1);
            Due.equal("count(11)", x.count(11), 2);
            x.undo();
            x.undo();
            x.goBack(1);
            Due.equal("pieceOf(3, 0)", x.pieceOf(3, 0), 5);
        });
        for (int slot : new int[] {-1, 2, MIN, MAX}) {
            Due.refusedTest("Promise 13", WRONG, "keep(" + slot + ")", x -> x.keep(slot));
        }
    }

    private static void keepTakesAll() {
        Due.test("Snapshots: what changes the object behind keep() does not change the snapshot", () -> {
            CoverWays x = Made.stepped();
            x.keep(0);
            changeAll(x);
            x.goBack(0);
            isStepped(x);
        });
        Due.test("Snapshots: a snapshot has neither the buffer nor the slots", () -> {
            CoverWays x = Made.loaded();
            Due.type(x, "s1");
            x.keep(0);
            Due.type(x, ";e2");
            x.cover(3, 33);
            x.keep(1);
            x.goBack(0);
            Due.equal("clearBuffer()", x.clearBuffer(), 5);
            x.goBack(1);
            Due.equal("pieceOf(3, 0): the slot 1 is still kept", x.pieceOf(3, 0), 33);
        });
        Due.test("Snapshots: a snapshot has not the saved states", () -> {
            CoverWays x = Made.loaded();
            x.keep(0);
            x.cover(3, 1);
            x.cover(3, 2);
            x.goBack(0);
            Due.equal("count(11)", x.count(11), 4);
            x.undo();
            Due.equal("pieceOf(3, 0)", x.pieceOf(3, 0), 2);
            x.undo();
            Due.equal("pieceOf(3, 0)", x.pieceOf(3, 0), 1);
        });
    }

    /** Whatever a state has becomes another than it is behind Made.stepped(). */
    private static void changeAll(CoverWays x) {
        x.cover(0, 999);
        x.join(0, 8);
        x.join(0, 1);
        x.mark(1, 1);
        x.bar(2, 8);
        x.split();
        x.step();
    }

    /** The state is that of Made.stepped(), told by the looks; what is saved and kept may be another. */
    private static void isStepped(CoverWays x) {
        CoverWays due = Made.stepped();
        for (int what = 0; what < 11; what++) {
            Due.equal("count(" + what + ")", x.count(what), due.count(what));
        }
        for (int piece = 0; piece < 9; piece++) {
            for (int what = 0; what < 8; what++) {
                Due.equal("pieceOf(" + piece + ", " + what + ")", x.pieceOf(piece, what), due.pieceOf(piece, what));
            }
            for (int to = 0; to < 9; to++) {
                Due.equal("isJoined(" + piece + ", " + to + ")", x.isJoined(piece, to), due.isJoined(piece, to));
            }
        }
        Due.equal("noted(0, 0)", x.noted(0, 0), 6);
        Due.equal("noted(0, 1)", x.noted(0, 1), Due.mask(0, 2, 8));
        Due.equal("noted(1, 0)", x.noted(1, 0), -1);
    }

    private static void goBack() {
        Due.test("Promise 14: how many joins there are then is returned", () -> {
            CoverWays x = Made.loaded();
            x.keep(0);
            x.join(3, 4);
            x.keep(1);
            Due.equal("goBack(0)", x.goBack(0), 4);
            Due.equal("goBack(1)", x.goBack(1), 5);
            CoverWays y = new CoverWays();
            y.keep(0);
            y.join(3, 4);
            Due.equal("goBack(0) to none", y.goBack(0), 0);
        });
        Due.test("Promise 14: the snapshot stays", () -> {
            CoverWays x = Made.stepped();
            x.keep(0);
            for (int i = 0; i < 3; i++) {
                changeAll(x);
                x.goBack(0);
                isStepped(x);
            }
        });
        Due.test("Promise 14: the snapshot of a new object is one, too", () -> {
            CoverWays x = new CoverWays();
            x.keep(1);
            changeAll(x);
            x.goBack(1);
            Due.equal("count(1)", x.count(1), 0);
            Due.equal("count(3)", x.count(3), 0);
            Due.equal("count(9)", x.count(9), 0);
            Due.equal("pieceOf(0, 2)", x.pieceOf(0, 2), 1);
        });
        Due.test("Promise 14: undoable, and saves the state from before it", () -> {
            Due.undoableOn(Made::stepped, "goBack(1)", x -> x.goBack(1));
            Due.undoableOn(Made::full, "goBack(0)", x -> x.goBack(0));
            Due.undoableOn(Made::full, "goBack(1)", x -> x.goBack(1));
        });
        Due.test("Promise 14: undoable, also if it changes nothing", () -> {
            CoverWays x = Made.stepped();
            x.keep(0);
            x.goBack(0);
            Due.equal("count(11)", x.count(11), 3);
            Due.equal("undo()", x.undo(), 2);
            isStepped(x);
        });
    }

    private static void goBackRestoresAll() {
        Due.test("Promise 14: the ways noted and the rests come back", () -> {
            CoverWays x = Made.stepped();
            x.keep(0);
            x.begin();
            x.goBack(0);
            Due.equal("count(3)", x.count(3), 1);
            Due.equal("noted(0, 0)", x.noted(0, 0), 6);
            Due.equal("pieceOf(2, 1)", x.pieceOf(2, 1), 0);
            Due.equal("step() goes on", x.step(), 3);
        });
        Due.test("Promise 14: what is counted so far comes back", () -> {
            CoverWays x = Made.loaded();
            x.split();
            x.keep(0);
            x.begin();
            x.split();
            x.step();
            Due.equal("count(9)", x.count(9), 4);
            Due.equal("count(10)", x.count(10), 3);
            x.goBack(0);
            Due.equal("count(9)", x.count(9), 2);
            Due.equal("count(10)", x.count(10), 1);
        });
    }

    private static void goBackRefuses() {
        for (int slot : new int[] {-1, 2, MIN, MAX}) {
            Due.refusedTest("Promise 14", WRONG, "goBack(" + slot + ")", x -> x.goBack(slot));
        }
        Due.test("Promise 14: both apply: a slot out of range, with no snapshot in it", () -> {
            Due.refusedOn(Made::fresh, WRONG, "goBack(2)", x -> x.goBack(2));
            Due.refusedOn(Made::fresh, WRONG, "goBack(-1)", x -> x.goBack(-1));
        });
        Due.test("Promise 14: an empty slot, with none or the other one kept", () -> {
            Due.refusedOn(Made::loaded, NONE_THERE, "goBack(0)", x -> x.goBack(0));
            Due.refusedOn(Made::loaded, NONE_THERE, "goBack(1)", x -> x.goBack(1));
            Due.refusedOn(Made::stepped, NONE_THERE, "goBack(0) with the slot 1 kept", x -> x.goBack(0));
            Due.refusedOn(() -> {
                CoverWays x = Made.loaded();
                x.keep(0);
                return x;
            }, NONE_THERE, "goBack(1) with the slot 0 kept", x -> x.goBack(1));
        });
    }

    private static void undo() {
        Due.test("Promise 15: the latest saved state is restored and dropped; what is left is returned", () -> {
            CoverWays x = new CoverWays();
            x.cover(3, 1);
            x.cover(3, 2);
            x.cover(3, 3);
            Due.equal("undo()", x.undo(), 2);
            Due.equal("pieceOf(3, 0)", x.pieceOf(3, 0), 2);
            Due.equal("count(11)", x.count(11), 2);
            Due.equal("undo()", x.undo(), 1);
            Due.equal("pieceOf(3, 0)", x.pieceOf(3, 0), 1);
            Due.equal("undo()", x.undo(), 0);
            Due.equal("pieceOf(3, 0)", x.pieceOf(3, 0), 0);
        });
        Due.test("Promise 15: it is not undoable itself", () -> {
            CoverWays x = new CoverWays();
            x.cover(3, 1);
            x.undo();
            Due.equal("count(11)", x.count(11), 0);
            Due.wrongState(x, "undo()", () -> x.undo());
            Due.equal("pieceOf(3, 0)", x.pieceOf(3, 0), 0);
        });
        Due.test("Promise 15: it throws if there is none (a new object, and when all are undone)", () -> {
            Due.refusedOn(Made::fresh, NONE_THERE, "undo()", x -> x.undo());
            Due.refusedOn(Made::typed, NONE_THERE, "undo()", x -> x.undo());
            Due.refusedOn(() -> {
                CoverWays x = Made.full();
                for (int i = 0; i < 6; i++) {
                    x.undo();
                }
                return x;
            }, NONE_THERE, "undo() of the seventh", x -> x.undo());
        });
        Due.test("Promise 15: behind undo() calls save on", () -> {
            CoverWays x = new CoverWays();
            x.cover(3, 1);
            x.cover(3, 2);
            x.undo();
            x.cover(3, 7);
            x.cover(3, 8);
            Due.equal("undo()", x.undo(), 2);
            Due.equal("pieceOf(3, 0)", x.pieceOf(3, 0), 7);
            Due.equal("undo()", x.undo(), 1);
            Due.equal("pieceOf(3, 0)", x.pieceOf(3, 0), 1);
        });
    }

    private static void undoRestoresAll() {
        Due.test("Undo: all is saved, also what is counted so far", () -> {
            CoverWays x = Made.stepped();
            Due.equal("count(11)", x.count(11), 2);
            x.join(0, 8);
            x.split();
            x.bar(0, 1);
            x.mark(5, 3);
            for (int i = 0; i < 4; i++) {
                x.undo();
            }
            isStepped(x);
            Due.equal("count(9)", x.count(9), 1);
            Due.equal("count(10)", x.count(10), 0);
        });
        Due.test("Undo: a saved state has not the buffer", () -> {
            CoverWays x = new CoverWays();
            Due.type(x, "s1");
            x.cover(3, 1);
            Due.type(x, ";e2");
            x.undo();
            Due.equal("clearBuffer()", x.clearBuffer(), 5);
        });
        Due.test("Undo: a saved state has not the slots", () -> {
            CoverWays x = new CoverWays();
            x.cover(3, 1);
            x.keep(0);
            x.undo();
            Due.equal("goBack(0)", x.goBack(0), 0);
            Due.equal("pieceOf(3, 0)", x.pieceOf(3, 0), 1);
        });
        Due.test("Undo: a saved state has not the saved states: those ahead of it stay as they are", () -> {
            CoverWays x = new CoverWays();
            for (int i = 1; i <= 5; i++) {
                x.cover(3, i);
            }
            x.undo();
            x.undo();
            Due.equal("count(11)", x.count(11), 3);
            Due.equal("pieceOf(3, 0)", x.pieceOf(3, 0), 3);
        });
        Due.test("Undo: what changes the object behind undo() does not change what is saved", () -> {
            CoverWays x = Made.stepped();
            x.begin();
            x.begin();
            x.undo();
            changeAll(x);
            for (int i = 0; i < 6; i++) {
                x.undo();
            }
            Due.wrongState(x, "undo()", () -> x.undo());
            // Seven calls of changeAll: the state behind the first one is the oldest one left.
            Due.equal("pieceOf(0, 0)", x.pieceOf(0, 0), 999);
            Due.equal("isJoined(0, 8)", x.isJoined(0, 8), 0);
        });
    }

    private static void sixStates() {
        Due.test("Undo: at most 6 states are saved (0 to 6, and 6 for each more)", () -> {
            CoverWays x = new CoverWays();
            Due.equal("count(11)", x.count(11), 0);
            for (int i = 1; i <= 9; i++) {
                x.cover(3, i);
                Due.equal("count(11) behind " + i, x.count(11), i < 6 ? i : 6);
            }
        });
        Due.test("Undo: six calls can be undone, all of them", () -> {
            CoverWays x = new CoverWays();
            for (int i = 1; i <= 6; i++) {
                x.cover(3, i);
            }
            for (int i = 5; i >= 0; i--) {
                Due.equal("undo()", x.undo(), i);
                Due.equal("pieceOf(3, 0)", x.pieceOf(3, 0), i);
            }
            Due.wrongState(x, "undo()", () -> x.undo());
        });
        Due.test("Undo: the oldest one is dropped first (seven calls)", () -> {
            CoverWays x = new CoverWays();
            for (int i = 1; i <= 7; i++) {
                x.cover(3, i);
            }
            for (int i = 6; i >= 1; i--) {
                Due.equal("undo()", x.undo(), i - 1);
                Due.equal("pieceOf(3, 0)", x.pieceOf(3, 0), i);
            }
            Due.wrongState(x, "undo()", () -> x.undo());
            Due.equal("pieceOf(3, 0): the state from before all is gone", x.pieceOf(3, 0), 1);
        });
        Due.test("Undo: the oldest one is dropped first (five hundred calls, and some undone between)", () -> {
            CoverWays x = new CoverWays();
            for (int i = 1; i <= 480; i++) {
                x.cover(3, i);
            }
            x.undo();
            x.undo();
            for (int i = 481; i <= 483; i++) {
                x.cover(3, i);
            }
            int[] due = {482, 481, 478, 477, 476, 475};
            for (int i = 0; i < 6; i++) {
                Due.equal("undo()", x.undo(), 5 - i);
                Due.equal("pieceOf(3, 0)", x.pieceOf(3, 0), due[i]);
            }
        });
        Due.test("Undo: split() and goBack() save one state, and drop one", () -> {
            CoverWays x = Made.full();
            x.split();
            Due.equal("count(11)", x.count(11), 6);
            x.goBack(0);
            Due.equal("count(11)", x.count(11), 6);
        });
    }

    private static void saves(String name, Due.CallOn call) {
        Due.test("Undo: it saves the state, also if it changes nothing, or is refused: " + name, () -> {
            CoverWays x = Made.stepped();
            x.keep(0);
            Due.type(x, Made.GRAPH);
            call.answer(x);
            Due.equal("count(11)", x.count(11), 3);
            Due.equal("undo()", x.undo(), 2);
            isStepped(x);
        });
    }

    private static void whatSaves() {
        saves("cover", x -> x.cover(3, 3));
        saves("cover, which changes nothing", x -> x.cover(3, 0));
        saves("join", x -> x.join(3, 4));
        saves("mark", x -> x.mark(3, 3));
        saves("mark, which changes nothing", x -> x.mark(3, 0));
        saves("bar", x -> x.bar(3, 4));
        saves("step", x -> x.step());
        saves("split", x -> x.split());
        saves("begin", x -> x.begin());
        saves("load", x -> x.load());
        saves("goBack, which changes nothing", x -> x.goBack(0));
        Due.test("Undo: it saves the state, also if it changes nothing, or is refused: begin", () -> {
            CoverWays x = new CoverWays();
            x.begin();
            Due.equal("count(11)", x.count(11), 1);
            Due.equal("undo()", x.undo(), 0);
            Due.alike("begin() and undo()", x, new CoverWays());
        });
        Due.test("Undo: it saves the state, also if it changes nothing, or is refused: step, split", () -> {
            CoverWays x = new CoverWays();
            x.step();
            x.split();
            Due.equal("count(10)", x.count(10), 2);
            Due.equal("undo()", x.undo(), 1);
            Due.equal("count(10)", x.count(10), 1);
            Due.equal("undo()", x.undo(), 0);
            Due.alike("step(), split() and undo()", x, new CoverWays());
        });
    }

    private static void savesNothing(String name, Due.CallOn call) {
        Due.test("Undo: what is not marked undoable saves nothing: " + name, () -> {
            CoverWays x = Made.stepped();
            x.keep(0);
            call.answer(x);
            Due.equal("count(11)", x.count(11), 2);
            CoverWays y = new CoverWays();
            y.keep(0);
            call.answer(y);
            Due.equal("count(11) of a new object", y.count(11), 0);
        });
    }

    private static void whatSavesNothing() {
        savesNothing("append", x -> x.append('c'));
        savesNothing("clearBuffer", x -> x.clearBuffer());
        savesNothing("firstError", x -> x.firstError());
        savesNothing("keep", x -> x.keep(1));
        savesNothing("pieceOf", x -> x.pieceOf(0, 6));
        savesNothing("isJoined", x -> x.isJoined(0, 1));
        savesNothing("noted", x -> x.noted(0, 0));
        savesNothing("count", x -> x.count(8));
        savesNothing("heaviest", x -> x.heaviest(1));
        savesNothing("openWay", x -> x.openWay(0));
        savesNothing("ifSplit", x -> x.ifSplit());
        savesNothing("mainPiece", x -> x.mainPiece());
        savesNothing("explained", x -> (long) x.explained());
        savesNothing("digest", x -> x.digest());
    }
}
