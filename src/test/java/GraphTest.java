/** Promises 1 to 5: a new object, cover, join, mark, bar. */
public final class GraphTest {
    private static final int MIN = Integer.MIN_VALUE;
    private static final int MAX = Integer.MAX_VALUE;

    public static void main(String[] args) {
        newObject();
        cover();
        join();
        mark();
        bar();
        eachBeginsAnew();
        Due.close("GraphTest");
    }

    private static void newObject() {
        CoverWays x = new CoverWays();
        Due.equal("NONE", CoverWays.NONE, -1);
        int[] counts = {0, 0, 0, 0, 0, 0, 0, 9, 9, 0, 0, 0};
        for (int what = 0; what < counts.length; what++) {
            Due.equal("new: count(" + what + ")", x.count(what), counts[what]);
        }
        for (int piece = 0; piece < 9; piece++) {
            for (int what = 0; what < 8; what++) {
                int due = what != 2 ? 0 : piece == 0 ? 1 : piece == 8 ? 2 : 0;
                Due.equal("new: pieceOf(" + piece + ", " + what + ")", x.pieceOf(piece, what), due);
            }
            for (int to = 0; to < 9; to++) {
                Due.equal("new: isJoined(" + piece + ", " + to + ")", x.isJoined(piece, to), 0);
            }
        }
        Due.equal("new: firstError()", x.firstError(), 0);
        Due.equal("new: clearBuffer()", x.clearBuffer(), 0);
        Due.wrongState(x, "new: goBack(0)", () -> x.goBack(0));
        Due.wrongState(x, "new: goBack(1)", () -> x.goBack(1));
        Due.wrongState(x, "new: undo()", () -> x.undo());
        CoverWays other = new CoverWays();
        other.join(0, 8);
        Due.equal("a second object changes the first one", x.count(0), 0);
    }

    private static void cover() {
        CoverWays x = new CoverWays();
        Due.equal("cover(3, 999)", x.cover(3, 999), 0);
        Due.equal("cover(3, 0)", x.cover(3, 0), 999);
        Due.equal("cover(3, 7)", x.cover(3, 7), 0);
        Due.equal("cover(8, 1)", x.cover(8, 1), 0);
        Due.equal("cover(0, 5)", x.cover(0, 5), 0);
        Due.equal("pieceOf(3, 0)", x.pieceOf(3, 0), 7);
        Due.equal("pieceOf(8, 0)", x.pieceOf(8, 0), 1);
        Due.equal("pieceOf(0, 1)", x.pieceOf(0, 1), 5);
        Due.equal("count(1)", x.count(1), 13);
        CoverWays y = new CoverWays();
        Due.undoable(y, "cover(4, 500)", () -> y.cover(4, 500));
        Due.undoable(y, "cover(4, 0) as it is", () -> y.cover(4, 0));
        Due.outOfBounds(y, "cover(-1, 0)", () -> y.cover(-1, 0));
        Due.outOfBounds(y, "cover(9, 0)", () -> y.cover(9, 0));
        Due.outOfBounds(y, "cover(MIN, 0)", () -> y.cover(MIN, 0));
        Due.outOfBounds(y, "cover(9, 1000): the first one counts", () -> y.cover(9, 1000));
        Due.outOfBounds(y, "cover(-1, -1): the first one counts", () -> y.cover(-1, -1));
        Due.wrongArgument(y, "cover(0, -1)", () -> y.cover(0, -1));
        Due.wrongArgument(y, "cover(8, 1000)", () -> y.cover(8, 1000));
        Due.wrongArgument(y, "cover(8, MAX)", () -> y.cover(8, MAX));
    }

    private static void join() {
        CoverWays x = new CoverWays();
        Due.equal("join(0, 8)", x.join(0, 8), 1);
        Due.equal("join(7, 8)", x.join(7, 8), 1);
        Due.equal("join(2, 5)", x.join(2, 5), 1);
        Due.equal("count(0)", x.count(0), 3);
        Due.equal("join(2, 5) again", x.join(2, 5), 0);
        Due.equal("isJoined(2, 5)", x.isJoined(2, 5), 0);
        Due.equal("isJoined(7, 8)", x.isJoined(7, 8), 1);
        Due.equal("join(2, 5) once more", x.join(2, 5), 1);
        CoverWays y = new CoverWays();
        Due.undoable(y, "join(1, 2)", () -> y.join(1, 2));
        y.join(1, 2);
        Due.undoable(y, "join(1, 2) taken away", () -> y.join(1, 2));
        Due.outOfBounds(y, "join(-1, 3)", () -> y.join(-1, 3));
        Due.outOfBounds(y, "join(3, 9)", () -> y.join(3, 9));
        Due.outOfBounds(y, "join(9, 10)", () -> y.join(9, 10));
        Due.outOfBounds(y, "join(3, MAX)", () -> y.join(3, MAX));
        Due.outOfBounds(y, "join(9, 0): the first one counts", () -> y.join(9, 0));
        Due.outOfBounds(y, "join(0, -1): the first one counts", () -> y.join(0, -1));
        Due.wrongArgument(y, "join(4, 4)", () -> y.join(4, 4));
        Due.wrongArgument(y, "join(2, 1)", () -> y.join(2, 1));
        Due.wrongArgument(y, "join(8, 0)", () -> y.join(8, 0));
    }

    private static void mark() {
        CoverWays x = new CoverWays();
        Due.equal("mark(0, 3)", x.mark(0, 3), 1);
        Due.equal("mark(0, 0)", x.mark(0, 0), 3);
        Due.equal("mark(8, 1)", x.mark(8, 1), 2);
        Due.equal("mark(8, 1) as it is", x.mark(8, 1), 1);
        Due.equal("mark(4, 2)", x.mark(4, 2), 0);
        Due.equal("pieceOf(4, 2)", x.pieceOf(4, 2), 2);
        Due.equal("pieceOf(0, 2)", x.pieceOf(0, 2), 0);
        Due.equal("pieceOf(8, 2)", x.pieceOf(8, 2), 1);
        CoverWays y = new CoverWays();
        Due.undoable(y, "mark(5, 3)", () -> y.mark(5, 3));
        Due.undoable(y, "mark(5, 0) as it is", () -> y.mark(5, 0));
        Due.outOfBounds(y, "mark(-1, 0)", () -> y.mark(-1, 0));
        Due.outOfBounds(y, "mark(9, 0)", () -> y.mark(9, 0));
        Due.outOfBounds(y, "mark(9, 4): the first one counts", () -> y.mark(9, 4));
        Due.wrongArgument(y, "mark(0, 4)", () -> y.mark(0, 4));
        Due.wrongArgument(y, "mark(0, -1)", () -> y.mark(0, -1));
        Due.wrongArgument(y, "mark(8, MIN)", () -> y.mark(8, MIN));
    }

    private static void bar() {
        CoverWays x = new CoverWays();
        Due.equal("bar(2, 6)", x.bar(2, 6), 1);
        Due.equal("pieceOf(2, 7)", x.pieceOf(2, 7), 1 << 6);
        Due.equal("pieceOf(6, 7)", x.pieceOf(6, 7), 1 << 2);
        Due.equal("bar(8, 0), the greater one first", x.bar(8, 0), 1);
        Due.equal("bar(8, 2)", x.bar(8, 2), 1);
        Due.equal("pieceOf(8, 7)", x.pieceOf(8, 7), 0b101);
        Due.equal("bar(6, 2) takes it away", x.bar(6, 2), 0);
        Due.equal("pieceOf(2, 7)", x.pieceOf(2, 7), 1 << 8);
        Due.equal("pieceOf(6, 7)", x.pieceOf(6, 7), 0);
        CoverWays y = new CoverWays();
        Due.undoable(y, "bar(1, 7)", () -> y.bar(1, 7));
        y.bar(1, 7);
        Due.undoable(y, "bar(7, 1) taken away", () -> y.bar(7, 1));
        Due.outOfBounds(y, "bar(-1, 0)", () -> y.bar(-1, 0));
        Due.outOfBounds(y, "bar(0, 9)", () -> y.bar(0, 9));
        Due.outOfBounds(y, "bar(0, -1)", () -> y.bar(0, -1));
        Due.outOfBounds(y, "bar(9, 9): the first one counts", () -> y.bar(9, 9));
        Due.wrongArgument(y, "bar(0, 0)", () -> y.bar(0, 0));
        Due.wrongArgument(y, "bar(8, 8)", () -> y.bar(8, 8));
    }

    /** Each change of the graph begins the splitting anew, also one that leaves it as it is. */
    private static void eachBeginsAnew() {
        beginsAnew("cover", 0);
        beginsAnew("join", 1);
        beginsAnew("mark", 2);
        beginsAnew("bar", 3);
    }

    private static void beginsAnew(String name, int call) {
        CoverWays x = Due.loaded("c0=9;c8=4;j08;s0;e8");
        Due.equal(name + ": step()", x.step(), 4);
        Due.equal(name + ": count(2) behind step()", x.count(2), 5);
        if (call == 0) {
            x.cover(0, 9);
        } else if (call == 1) {
            x.join(3, 4);
        } else if (call == 2) {
            x.mark(8, 2);
        } else {
            x.bar(3, 4);
        }
        Due.equal(name + ": count(3)", x.count(3), 0);
        Due.equal(name + ": count(2)", x.count(2), 13);
        Due.equal(name + ": noted(0, 0)", x.noted(0, 0), -1);
        Due.equal(name + ": pieceOf(8, 1)", x.pieceOf(8, 1), 4);
        Due.equal(name + ": steps so far stay", x.count(9), 1);
    }
}
