/** Promises 13 to 15: keep, goBack, undo. */
public final class SnapshotTest {
    public static void main(String[] args) {
        keep();
        goBack();
        snapshotHasAllButTheBuffer();
        waysNotedComeBack();
        undo();
        undoKeepsSixStates();
        undoableCalls();
        looksAreNotUndoable();
        Due.close("SnapshotTest");
    }

    private static void keep() {
        CoverWays x = Due.loaded("c0=9;c8=4;j08;j01;s0;e8");
        Due.equal("keep(0)", x.keep(0), 2);
        Due.equal("count(11): keep is not undoable", x.count(11), 1);
        x.join(1, 2);
        Due.equal("keep(0) in place of the first one", x.keep(0), 3);
        x.join(2, 3);
        Due.equal("goBack(0)", x.goBack(0), 3);
        Due.wrongArgument(x, "keep(-1)", () -> x.keep(-1));
        Due.wrongArgument(x, "keep(2)", () -> x.keep(2));
        Due.wrongArgument(x, "keep(MAX)", () -> x.keep(Integer.MAX_VALUE));
    }

    private static void goBack() {
        CoverWays x = Due.loaded("c0=9;c8=4;j08;s0;e8");
        Due.wrongState(x, "goBack(0)", () -> x.goBack(0));
        Due.wrongState(x, "goBack(1)", () -> x.goBack(1));
        Due.wrongArgument(x, "goBack(-1)", () -> x.goBack(-1));
        Due.wrongArgument(x, "goBack(2)", () -> x.goBack(2));
        x.keep(1);
        Due.wrongState(x, "goBack(0) with the slot 1 kept", () -> x.goBack(0));
        x.join(0, 1);
        x.join(1, 8);
        Due.undoable(x, "goBack(1)", () -> x.goBack(1));
        Due.equal("goBack(1)", x.goBack(1), 1);
        Due.equal("isJoined(0, 1)", x.isJoined(0, 1), 0);
        x.join(0, 2);
        x.cover(4, 44);
        x.mark(4, 3);
        x.bar(4, 5);
        Due.equal("goBack(1): the snapshot stays", x.goBack(1), 1);
        Due.equal("count(1)", x.count(1), 13);
        Due.equal("pieceOf(4, 2)", x.pieceOf(4, 2), 0);
        Due.equal("pieceOf(4, 7)", x.pieceOf(4, 7), 0);
        x.keep(0);
        x.join(0, 3);
        x.keep(1);
        Due.equal("goBack(0)", x.goBack(0), 1);
        Due.equal("goBack(1)", x.goBack(1), 2);
    }

    private static void snapshotHasAllButTheBuffer() {
        CoverWays x = Due.loaded("c0=9;c8=4;j08;s0;e8");
        x.split();
        Due.type(x, "s1");
        x.keep(0);
        x.cover(0, 1);
        x.split();
        Due.type(x, ";e2");
        Due.equal("count(9)", x.count(9), 2);
        Due.equal("count(10)", x.count(10), 2);
        int saved = x.count(11);
        x.goBack(0);
        Due.equal("count(2): the rests are those of the snapshot", x.count(2), 5);
        Due.equal("count(3): the ways noted, too", x.count(3), 1);
        Due.equal("noted(0, 0)", x.noted(0, 0), 4);
        Due.equal("noted(0, 1)", x.noted(0, 1), Due.mask(0, 8));
        Due.equal("count(9): what is counted so far, too", x.count(9), 1);
        Due.equal("count(10)", x.count(10), 1);
        Due.equal("count(11): the saved states are not", x.count(11), saved + 1);
        Due.equal("clearBuffer(): the buffer is not", x.clearBuffer(), 5);
        x.undo();
        Due.equal("undo() leaves the buffer", x.clearBuffer(), 0);
        Due.equal("count(9)", x.count(9), 2);
        x.goBack(0);
        Due.equal("goBack(0): undo() leaves the slots", x.count(9), 1);
    }

    /** The ways noted come back where other ones have been noted since. */
    private static void waysNotedComeBack() {
        CoverWays x = Due.loaded("c0=9;c1=3;c8=4;c2=8;j08;j01;j18;s0;e8");
        x.split();
        x.keep(0);
        x.cover(8, 1);
        x.join(0, 8);
        x.split();
        Due.equal("noted(0, 1)", x.noted(0, 1), Due.mask(0, 1, 8));
        x.goBack(0);
        Due.equal("noted(0, 0) behind goBack(0)", x.noted(0, 0), 4);
        Due.equal("noted(0, 1) behind goBack(0)", x.noted(0, 1), Due.mask(0, 8));
        Due.equal("noted(0, 2) behind goBack(0)", x.noted(0, 2), 2);
        x.undo();
        Due.equal("noted(0, 0) behind undo()", x.noted(0, 0), 1);
        Due.equal("noted(0, 1) behind undo()", x.noted(0, 1), Due.mask(0, 1, 8));
        Due.equal("ifSplit()", x.ifSplit(), 18);
    }

    private static void undo() {
        CoverWays x = new CoverWays();
        Due.wrongState(x, "undo()", () -> x.undo());
        x.cover(0, 5);
        x.cover(0, 6);
        x.step();
        Due.equal("undo() of a refused step", x.undo(), 2);
        Due.equal("count(10)", x.count(10), 0);
        Due.equal("undo()", x.undo(), 1);
        Due.equal("pieceOf(0, 0)", x.pieceOf(0, 0), 5);
        Due.equal("undo()", x.undo(), 0);
        Due.equal("pieceOf(0, 0)", x.pieceOf(0, 0), 0);
        Due.wrongState(x, "undo()", () -> x.undo());
        CoverWays y = Due.loaded("c0=9;c8=4;j08;s0;e8");
        y.step();
        y.mark(8, 2);
        y.keep(0);
        Due.type(y, "abc");
        y.undo();
        Due.equal("undo(): the ways noted are there again", y.noted(0, 1), Due.mask(0, 8));
        Due.equal("pieceOf(0, 1): the rests, too", y.pieceOf(0, 1), 5);
        y.undo();
        Due.equal("count(9): a step that is undone is not counted", y.count(9), 0);
        Due.equal("clearBuffer()", y.clearBuffer(), 3);
        Due.equal("goBack(0): undo() leaves the slots", y.goBack(0), 1);
        Due.equal("count(9)", y.count(9), 1);
    }

    private static void undoKeepsSixStates() {
        CoverWays x = new CoverWays();
        for (int i = 1; i <= 20; i++) {
            x.cover(3, i);
            Due.equal("count(11)", x.count(11), Math.min(i, 6));
        }
        for (int i = 1; i <= 6; i++) {
            Due.equal("undo()", x.undo(), 6 - i);
            Due.equal("pieceOf(3, 0)", x.pieceOf(3, 0), 20 - i);
        }
        Due.wrongState(x, "undo() of the seventh", () -> x.undo());
        for (int i = 1; i <= 4; i++) {
            x.cover(3, 100 + i);
        }
        x.undo();
        Due.equal("pieceOf(3, 0)", x.pieceOf(3, 0), 103);
        for (int i = 1; i <= 4; i++) {
            x.cover(3, 200 + i);
        }
        for (int i = 3; i >= 1; i--) {
            x.undo();
            Due.equal("pieceOf(3, 0)", x.pieceOf(3, 0), 200 + i);
        }
        x.undo();
        Due.equal("pieceOf(3, 0)", x.pieceOf(3, 0), 103);
        x.undo();
        Due.equal("pieceOf(3, 0)", x.pieceOf(3, 0), 102);
        x.undo();
        Due.equal("pieceOf(3, 0): the oldest one was dropped", x.pieceOf(3, 0), 101);
        Due.equal("count(11)", x.count(11), 0);
    }

    private static void undoableCalls() {
        CoverWays x = Due.loaded("c0=9;c8=4;j08;s0;e8");
        x.undo();
        x.keep(0);
        Due.undoable(x, "cover", () -> x.cover(0, 0));
        Due.undoable(x, "join", () -> x.join(0, 1));
        Due.undoable(x, "mark", () -> x.mark(0, 1));
        Due.undoable(x, "bar", () -> x.bar(0, 1));
        Due.undoable(x, "step", () -> x.step());
        Due.undoable(x, "split", () -> x.split());
        Due.undoable(x, "begin", () -> x.begin());
        Due.undoable(x, "goBack", () -> x.goBack(0));
        Due.type(x, "s0");
        Due.equal("load()", x.load(), 0);
        Due.equal("count(11)", x.count(11), 1);
        x.undo();
        Due.equal("pieceOf(8, 2)", x.pieceOf(8, 2), 2);
    }

    private static void looksAreNotUndoable() {
        CoverWays x = Due.loaded("c0=9;c8=4;j08;s0;e8");
        x.step();
        for (int what = 0; what < 12; what++) {
            int number = what;
            Due.changesNothing(x, "count(" + what + ")", () -> x.count(number));
        }
        for (int what = 0; what < 8; what++) {
            int number = what;
            Due.changesNothing(x, "pieceOf(0, " + what + ")", () -> x.pieceOf(0, number));
        }
        Due.changesNothing(x, "isJoined(0, 8)", () -> x.isJoined(0, 8));
        Due.changesNothing(x, "noted(0, 0)", () -> x.noted(0, 0));
        Due.changesNothing(x, "heaviest(0)", () -> x.heaviest(0));
        Due.changesNothing(x, "heaviest(1)", () -> x.heaviest(1));
        Due.changesNothing(x, "openWay(0)", () -> x.openWay(0));
        Due.changesNothing(x, "ifSplit()", () -> x.ifSplit());
        Due.changesNothing(x, "mainPiece()", () -> x.mainPiece());
        Due.changesNothing(x, "explained()", () -> (long) x.explained());
        Due.changesNothing(x, "firstError()", () -> x.firstError());
        Due.equal("count(11)", x.count(11), 2);
    }
}
