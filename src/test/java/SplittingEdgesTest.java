/** Promises 6 to 8, sentence by sentence: step, split, begin. */
public final class SplittingEdgesTest {
    public static void main(String[] args) {
        step();
        stepRefused();
        split();
        splitRefused();
        begin();
        Due.close("SplittingEdgesTest");
    }

    private static void step() {
        Due.test("Promise 6: the weight of the way that is taken is returned", () -> {
            CoverWays x = Made.loaded();
            Due.equal("step()", x.step(), 6);
            Due.equal("step()", x.step(), 3);
        });
        Due.test("Promise 6: the least weight, 1, and the greatest, 999", () -> {
            CoverWays x = Due.loaded("s0;e0;c0=999;s8;e8;c8=1");
            Due.equal("step()", x.step(), 999);
            Due.equal("step()", x.step(), 1);
            Due.equal("count(9)", x.count(9), 2);
            Due.equal("count(10)", x.count(10), 0);
        });
        Due.test("Promise 6: the way is noted with its weight", () -> {
            CoverWays x = Made.loaded();
            x.step();
            Due.equal("count(3)", x.count(3), 1);
            Due.equal("noted(0, 0)", x.noted(0, 0), 6);
            Due.equal("noted(0, 1)", x.noted(0, 1), Due.mask(0, 2, 8));
            x.step();
            Due.equal("count(3)", x.count(3), 2);
            Due.equal("noted(0, 0)", x.noted(0, 0), 6);
            Due.equal("noted(1, 0)", x.noted(1, 0), 3);
            Due.equal("noted(1, 1)", x.noted(1, 1), Due.mask(0, 1, 8));
        });
        Due.test("Promise 6: the rest of each of its pieces becomes less by that, and no other one", () -> {
            CoverWays x = Due.loaded("c0=10;c1=3;c2=6;c7=7;c8=9;j01;j02;j18;j28;s0;e8");
            x.step();
            int[] rests = {4, 3, 0, 0, 0, 0, 0, 7, 3};
            for (int piece = 0; piece < 9; piece++) {
                Due.equal("pieceOf(" + piece + ", 1)", x.pieceOf(piece, 1), rests[piece]);
            }
            Due.equal("pieceOf(0, 0): covers stay", x.pieceOf(0, 0), 10);
        });
        Due.undoableTest("Promise 6", "step()", x -> x.step());
    }

    private static void stepRefused() {
        Due.test("Promise 6: 0 is returned, if it is refused (no way)", () -> {
            CoverWays x = Due.loaded("c0=5;c8=5;s0;e8");
            Due.equal("step()", x.step(), 0);
        });
        Due.test("Promise 6: 0 is returned, if it is refused (all ways are barred)", () -> {
            CoverWays x = Due.loaded("c0=5;c8=5;j08;s0;e8;x08");
            Due.equal("step()", x.step(), 0);
            Due.equal("count(2)", x.count(2), 10);
            Due.equal("count(10)", x.count(10), 1);
        });
        Due.test("Promise 6: 0 is returned, if it is refused (a piece of each way has no rest)", () -> {
            CoverWays x = Due.loaded("c0=5;c1=5;j01;j12;s0;e2");
            Due.equal("step()", x.step(), 0);
            Due.equal("count(2)", x.count(2), 10);
        });
        Due.test("Promise 6: what is refused notes nothing, and is counted as refused, not as a step", () -> {
            CoverWays x = Due.loaded("c0=5;c8=5;s0;e8");
            x.step();
            x.step();
            Due.equal("count(3)", x.count(3), 0);
            Due.equal("count(9)", x.count(9), 0);
            Due.equal("count(10)", x.count(10), 2);
        });
        Due.test("Promise 6: undoable, also if it is refused", () -> {
            Due.undoableOn(Made::fresh, "step()", x -> x.step());
            CoverWays x = new CoverWays();
            x.step();
            Due.equal("count(11)", x.count(11), 1);
            Due.equal("undo()", x.undo(), 0);
            Due.equal("count(10)", x.count(10), 0);
        });
    }

    private static void split() {
        Due.test("Promise 7: steps are made until one is refused; how many are made is returned", () -> {
            CoverWays x = Made.loaded();
            Due.equal("split()", x.split(), 2);
            Due.equal("count(3)", x.count(3), 2);
            Due.equal("count(9)", x.count(9), 2);
            Due.equal("count(2)", x.count(2), 1);
            Due.equal("heaviest(0)", x.heaviest(0), 0);
        });
        Due.test("Promise 7: the refused one is counted as refused, once", () -> {
            CoverWays x = Made.loaded();
            x.split();
            Due.equal("count(10)", x.count(10), 1);
            x.split();
            Due.equal("count(10)", x.count(10), 2);
        });
        Due.test("Promise 7: behind a step it goes on, and returns those that it makes", () -> {
            CoverWays x = Made.stepped();
            Due.equal("split()", x.split(), 1);
            Due.equal("count(3)", x.count(3), 2);
            Due.equal("noted(0, 0)", x.noted(0, 0), 6);
            Due.equal("noted(1, 0)", x.noted(1, 0), 3);
        });
        Due.test("Promise 7: the most steps of one call, nine", () -> {
            CoverWays x = new CoverWays();
            for (int piece = 0; piece < 9; piece++) {
                x.mark(piece, 3);
                x.cover(piece, 9 - piece);
            }
            Due.equal("split()", x.split(), 9);
            Due.equal("noted(8, 1)", x.noted(8, 1), Due.mask(8));
            Due.equal("count(2)", x.count(2), 0);
            Due.equal("count(10)", x.count(10), 1);
        });
        Due.undoableTest("Promise 7", "split()", x -> x.split());
        Due.test("Promise 7: undoable, as one call", () -> {
            CoverWays x = Made.loaded();
            x.split();
            Due.equal("count(11)", x.count(11), 2);
            Due.equal("undo()", x.undo(), 1);
            Due.equal("count(3)", x.count(3), 0);
            Due.equal("count(2)", x.count(2), 28);
            Due.equal("count(9)", x.count(9), 0);
            Due.equal("count(10)", x.count(10), 0);
        });
    }

    private static void splitRefused() {
        Due.test("Promise 7: 0 is returned, if the first one is refused; it is counted and undoable", () -> {
            CoverWays x = new CoverWays();
            Due.equal("split()", x.split(), 0);
            Due.equal("count(9)", x.count(9), 0);
            Due.equal("count(10)", x.count(10), 1);
            Due.equal("count(11)", x.count(11), 1);
            x.undo();
            Due.equal("count(10)", x.count(10), 0);
        });
    }

    private static void begin() {
        Due.test("Promise 8: the splitting is begun anew; how many ways were noted is returned", () -> {
            CoverWays x = Made.loaded();
            x.split();
            Due.equal("begin()", x.begin(), 2);
            Due.equal("count(3)", x.count(3), 0);
            Due.equal("noted(0, 0)", x.noted(0, 0), -1);
            Due.equal("count(2)", x.count(2), 28);
            Due.equal("pieceOf(2, 1)", x.pieceOf(2, 1), 6);
            Due.equal("step()", x.step(), 6);
        });
        Due.test("Promise 8: 0 with no way noted", () -> {
            Due.equal("begin()", new CoverWays().begin(), 0);
            CoverWays x = Made.stepped();
            Due.equal("begin()", x.begin(), 1);
            Due.equal("begin() again", x.begin(), 0);
        });
        Due.test("Promise 8: nine with the most ways noted", () -> {
            CoverWays x = new CoverWays();
            for (int piece = 0; piece < 9; piece++) {
                x.mark(piece, 3);
                x.cover(piece, 999);
            }
            x.split();
            Due.equal("begin()", x.begin(), 9);
        });
        Due.test("Promise 8: the graph stays, and what is counted so far", () -> {
            CoverWays x = Made.loaded();
            x.split();
            x.begin();
            Due.equal("count(0)", x.count(0), 4);
            Due.equal("count(1)", x.count(1), 28);
            Due.equal("count(9)", x.count(9), 2);
            Due.equal("count(10)", x.count(10), 1);
        });
        Due.undoableTest("Promise 8", "begin()", x -> x.begin());
    }
}
