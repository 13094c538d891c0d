/** Promises 6 to 8: step, split, begin. */
public final class SplittingTest {
    public static void main(String[] args) {
        step();
        stepTakesTheFirstOfSeveral();
        stepPassesBarredWays();
        refusedSteps();
        mostNoted();
        split();
        begin();
        Due.close("SplittingTest");
    }

    private static void step() {
        CoverWays x = Due.loaded("c0=10;c1=3;c2=6;c8=9;j01;j02;j18;j28;s0;e8");
        Due.equal("step()", x.step(), 6);
        Due.equal("noted(0, 0)", x.noted(0, 0), 6);
        Due.equal("noted(0, 1)", x.noted(0, 1), Due.mask(0, 2, 8));
        Due.equal("noted(0, 2)", x.noted(0, 2), 3);
        Due.equal("pieceOf(0, 1)", x.pieceOf(0, 1), 4);
        Due.equal("pieceOf(1, 1)", x.pieceOf(1, 1), 3);
        Due.equal("pieceOf(2, 1)", x.pieceOf(2, 1), 0);
        Due.equal("pieceOf(8, 1)", x.pieceOf(8, 1), 3);
        Due.equal("pieceOf(0, 0): the cover stays", x.pieceOf(0, 0), 10);
        Due.equal("step() again", x.step(), 3);
        Due.equal("noted(1, 1)", x.noted(1, 1), Due.mask(0, 1, 8));
        Due.equal("count(3)", x.count(3), 2);
        Due.equal("count(9)", x.count(9), 2);
        Due.equal("count(10)", x.count(10), 0);
        CoverWays y = Due.loaded("c0=2;c8=1;j08;s0;e8");
        Due.undoable(y, "step()", () -> y.step());
        y.step();
        Due.undoable(y, "step() refused", () -> y.step());
    }

    private static void stepTakesTheFirstOfSeveral() {
        CoverWays x = Due.loaded("c0=5;c1=5;c2=5;j01;j02;j12;s0;s1;e2;e1");
        // In order: 01, 012, 02, 1, 12; all weigh 5.
        Due.equal("step()", x.step(), 5);
        Due.equal("noted(0, 1)", x.noted(0, 1), Due.mask(0, 1));
        CoverWays y = Due.loaded("c0=4;c1=5;c2=5;j01;j02;j12;s0;s1;e2");
        // 12 weighs more than 012 and 02, although it comes behind them.
        Due.equal("step()", y.step(), 5);
        Due.equal("noted(0, 1)", y.noted(0, 1), Due.mask(1, 2));
    }

    private static void stepPassesBarredWays() {
        CoverWays x = Due.loaded("c0=9;c1=9;c2=2;c3=9;j01;j13;j02;j23;s0;e3;x03");
        Due.equal("step() with all ways barred", x.step(), 0);
        x.bar(0, 3);
        x.bar(1, 3);
        Due.equal("step()", x.step(), 2);
        Due.equal("noted(0, 1)", x.noted(0, 1), Due.mask(0, 2, 3));
    }

    private static void refusedSteps() {
        CoverWays x = new CoverWays();
        Due.equal("step() without ways", x.step(), 0);
        Due.equal("count(10)", x.count(10), 1);
        Due.equal("count(9)", x.count(9), 0);
        Due.equal("count(11)", x.count(11), 1);
        x.join(0, 8);
        Due.equal("step() without cover", x.step(), 0);
        Due.equal("count(3)", x.count(3), 0);
        Due.equal("count(10)", x.count(10), 2);
        x.cover(0, 1);
        x.cover(8, 1);
        Due.equal("step()", x.step(), 1);
        Due.equal("step() with no rests", x.step(), 0);
        Due.equal("count(10)", x.count(10), 3);
        Due.equal("count(9)", x.count(9), 1);
    }

    /**
     * Each step takes all that is left of one piece, so that no more than nine are made in a row
     * and the bound of twelve ways noted is never reached.
     */
    private static void mostNoted() {
        CoverWays x = new CoverWays();
        for (int piece = 0; piece < 9; piece++) {
            x.mark(piece, 3);
            x.cover(piece, 100 + piece);
        }
        Due.equal("split()", x.split(), 9);
        for (int rank = 0; rank < 9; rank++) {
            Due.equal("noted(" + rank + ", 0)", x.noted(rank, 0), 108 - rank);
            Due.equal("noted(" + rank + ", 1)", x.noted(rank, 1), Due.mask(8 - rank));
            Due.equal("noted(" + rank + ", 2)", x.noted(rank, 2), 1);
        }
        Due.equal("noted(9, 0)", x.noted(9, 0), -1);
        Due.equal("noted(12, 0)", x.noted(12, 0), -1);
        Due.equal("count(2)", x.count(2), 0);
        Due.equal("step()", x.step(), 0);
        Due.equal("count(3)", x.count(3), 9);
        Due.equal("begin()", x.begin(), 9);
    }

    private static void split() {
        CoverWays x = Due.loaded("c0=10;c1=3;c2=6;c8=9;j01;j02;j18;j28;s0;e8");
        Due.equal("split()", x.split(), 2);
        Due.equal("count(2)", x.count(2), 1);
        Due.equal("count(9)", x.count(9), 2);
        Due.equal("count(10): the last one was refused", x.count(10), 1);
        Due.equal("count(11): as one call", x.count(11), 2);
        Due.equal("split() again", x.split(), 0);
        Due.equal("count(10)", x.count(10), 2);
        x.undo();
        Due.undoable(x, "split() refused at once", () -> x.split());
        CoverWays y = Due.loaded("c0=10;c1=3;c2=6;c8=9;j01;j02;j18;j28;s0;e8");
        Due.undoable(y, "split()", () -> y.split());
        y.step();
        Due.equal("split() behind a step", y.split(), 1);
        Due.equal("count(3)", y.count(3), 2);
    }

    private static void begin() {
        CoverWays x = Due.loaded("c0=10;c1=3;c2=6;c8=9;j01;j02;j18;j28;s0;e8");
        Due.equal("begin() with none noted", x.begin(), 0);
        x.split();
        Due.undoable(x, "begin()", () -> x.begin());
        Due.equal("begin()", x.begin(), 2);
        Due.equal("count(3)", x.count(3), 0);
        Due.equal("count(2)", x.count(2), 28);
        Due.equal("count(9): steps so far stay", x.count(9), 2);
        Due.equal("count(10): refused so far stay", x.count(10), 1);
        Due.equal("noted(0, 1)", x.noted(0, 1), -1);
        Due.equal("split() once more", x.split(), 2);
        Due.equal("count(9)", x.count(9), 4);
    }
}
