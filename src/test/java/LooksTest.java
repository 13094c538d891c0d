/** Promises 16 to 19: pieceOf, isJoined, noted, count. */
public final class LooksTest {
    private static final String GRAPH = "c1=7;c4=9;j01;j04;j14;j48;j25;s0;s2;e4;e8;x01;x18";

    public static void main(String[] args) {
        pieceOf();
        pieceOfRefuses();
        isJoined();
        noted();
        countOfCovers();
        countOfWays();
        countOfRows();
        countOfAll();
        Due.close("LooksTest");
    }

    private static void pieceOf() {
        CoverWays x = Due.loaded(GRAPH);
        // The ways: 014, 0148, 04, 048; the ones with 0 and 1 are barred.
        int[][] due = {
            {0, 0, 1, 0, 2, 3, 4, 0b10},
            {7, 7, 0, 1, 1, 2, 2, 0b100000001},
            {0, 0, 1, 0, 1, 1, 0, 0},
            {0, 0, 0, 0, 0, 0, 0, 0},
            {9, 9, 2, 2, 1, 1, 4, 0},
            {0, 0, 0, 1, 0, 0, 0, 0},
            {0, 0, 0, 0, 0, 0, 0, 0},
            {0, 0, 0, 0, 0, 0, 0, 0},
            {0, 0, 2, 1, 0, 0, 2, 0b10}};
        for (int piece = 0; piece < 9; piece++) {
            for (int what = 0; what < 8; what++) {
                Due.equal("pieceOf(" + piece + ", " + what + ")", x.pieceOf(piece, what), due[piece][what]);
            }
        }
        CoverWays y = Due.loaded("c0=9;c8=4;j08;s0;e8");
        y.step();
        Due.equal("pieceOf(0, 0) behind step()", y.pieceOf(0, 0), 9);
        Due.equal("pieceOf(0, 1) behind step()", y.pieceOf(0, 1), 5);
        // Pieces come behind one another by several joins, too.
        CoverWays z = Due.loaded("j01;j12;j23;j34;j45;j56;j67;j78");
        for (int piece = 0; piece < 9; piece++) {
            Due.equal("pieceOf(" + piece + ", 5) in a row", z.pieceOf(piece, 5), 8 - piece);
        }
        Due.equal("pieceOf(0, 6) without marks", z.pieceOf(0, 6), 0);
    }

    private static void pieceOfRefuses() {
        CoverWays x = Due.loaded(GRAPH);
        Due.outOfBounds(x, "pieceOf(-1, 0)", () -> x.pieceOf(-1, 0));
        Due.outOfBounds(x, "pieceOf(9, 0)", () -> x.pieceOf(9, 0));
        Due.outOfBounds(x, "pieceOf(9, 8): the first one counts", () -> x.pieceOf(9, 8));
        Due.wrongArgument(x, "pieceOf(0, 8)", () -> x.pieceOf(0, 8));
        Due.wrongArgument(x, "pieceOf(8, -1)", () -> x.pieceOf(8, -1));
        Due.wrongArgument(x, "pieceOf(8, MIN)", () -> x.pieceOf(8, Integer.MIN_VALUE));
    }

    private static void isJoined() {
        CoverWays x = Due.loaded(GRAPH);
        for (int from = 0; from < 9; from++) {
            for (int to = 0; to < 9; to++) {
                boolean joined = "j01;j04;j14;j48;j25".contains("j" + from + to);
                Due.equal("isJoined(" + from + ", " + to + ")", x.isJoined(from, to), joined ? 1 : 0);
            }
        }
        Due.outOfBounds(x, "isJoined(-1, 0)", () -> x.isJoined(-1, 0));
        Due.outOfBounds(x, "isJoined(0, -1)", () -> x.isJoined(0, -1));
        Due.outOfBounds(x, "isJoined(9, 0)", () -> x.isJoined(9, 0));
        Due.outOfBounds(x, "isJoined(0, 9)", () -> x.isJoined(0, 9));
        Due.outOfBounds(x, "isJoined(0, 32)", () -> x.isJoined(0, 32));
    }

    private static void noted() {
        CoverWays x = Due.loaded("c0=10;c1=3;c2=6;c8=9;j01;j02;j18;j28;s0;e8");
        Due.equal("noted(0, 0) with none noted", x.noted(0, 0), -1);
        x.split();
        int[][] due = {{6, Due.mask(0, 2, 8), 3}, {3, Due.mask(0, 1, 8), 3}, {-1, -1, -1}, {-1, -1, -1}};
        for (int rank = 0; rank < due.length; rank++) {
            for (int what = 0; what < 3; what++) {
                Due.equal("noted(" + rank + ", " + what + ")", x.noted(rank, what), due[rank][what]);
            }
        }
        Due.equal("noted(MAX, 2)", x.noted(Integer.MAX_VALUE, 2), -1);
        Due.wrongArgument(x, "noted(-1, 0)", () -> x.noted(-1, 0));
        Due.wrongArgument(x, "noted(MIN, 0)", () -> x.noted(Integer.MIN_VALUE, 0));
        Due.wrongArgument(x, "noted(0, -1)", () -> x.noted(0, -1));
        Due.wrongArgument(x, "noted(0, 3)", () -> x.noted(0, 3));
        Due.wrongArgument(x, "noted(99, 3)", () -> x.noted(99, 3));
    }

    private static void counts(String graph, int what, int due) {
        CoverWays x = Due.loaded(graph);
        Due.equal("count(" + what + ") of " + graph, x.count(what), due);
    }

    private static void countOfCovers() {
        CoverWays x = Due.loaded("c0=999;c8=4;c3=2;j08;s0;e8");
        Due.equal("count(0)", x.count(0), 1);
        Due.equal("count(1)", x.count(1), 1005);
        Due.equal("count(2)", x.count(2), 1005);
        x.step();
        Due.equal("count(1) behind step()", x.count(1), 1005);
        Due.equal("count(2) behind step()", x.count(2), 997);
        Due.equal("count(3)", x.count(3), 1);
        Due.equal("count(9)", x.count(9), 1);
        Due.equal("count(10)", x.count(10), 0);
        Due.equal("count(11)", x.count(11), 2);
        x.step();
        Due.equal("count(9)", x.count(9), 1);
        Due.equal("count(10)", x.count(10), 1);
        Due.wrongArgument(x, "count(-1)", () -> x.count(-1));
        Due.wrongArgument(x, "count(12)", () -> x.count(12));
        Due.wrongArgument(x, "count(MAX)", () -> x.count(Integer.MAX_VALUE));
    }

    private static void ways(String graph, int all, int open) {
        counts(graph, 4, all);
        counts(graph, 5, all);
        counts(graph, 6, open);
    }

    private static void countOfWays() {
        ways(GRAPH, 4, 2);
        ways("s0;e0", 1, 1);
        ways("s0;e1", 0, 0);
        ways("j01;s0;e1;x01", 1, 0);
        // A way may pass through starts and ends: 01, 012, 1, 12.
        ways("j01;j12;s0;s1;e1;e2", 4, 4);
        // Pieces bar one another also where they are not neighbours.
        ways("j01;j12;s0;s1;e1;e2;x02", 4, 3);
        ways("j01;j12;s0;s1;e1;e2;x01", 4, 2);
        ways("s0;e0;s4;e4;x04", 2, 2);
        // Ways that are gone do not count any longer.
        CoverWays x = Due.loaded("j01;j02;j12;j18;j28;s0;e8");
        Due.equal("pieceOf(2, 6)", x.pieceOf(2, 6), 2);
        Due.equal("mainPiece()", x.mainPiece(), 0);
        x.mark(0, 0);
        Due.equal("pieceOf(2, 6) without starts", x.pieceOf(2, 6), 0);
        Due.equal("mainPiece() without starts", x.mainPiece(), -1);
        x.mark(1, 1);
        Due.equal("pieceOf(2, 6) from 1", x.pieceOf(2, 6), 1);
        Due.equal("pieceOf(1, 6) from 1", x.pieceOf(1, 6), 2);
        Due.equal("mainPiece() from 1", x.mainPiece(), 1);
        x.bar(1, 2);
        Due.equal("count(6) with a bar", x.count(6), 1);
        x.bar(1, 2);
        Due.equal("count(6) without it", x.count(6), 2);
    }

    private static void rows(String graph, int due) {
        counts(graph, 7, due);
        counts(graph, 8, due);
    }

    private static void countOfRows() {
        rows("s0", 9);
        rows("j01", 8);
        rows("j01;j12;j23;j34;j45;j56;j67;j78", 1);
        rows("j04;j14;j24;j34;j45;j46;j47;j48", 4);
        // A row may leave pieces between its own out: 0 2 3 and 1 4 of the joins by way of 2.
        rows("j02;j12;j23;j24", 6);
        rows("j08;j18;j28", 8);
        rows("j02;j03;j13;j14;j05", 7);
        // The first pair that is found, 0 2, must give way to 0 3 and 1 2.
        rows("j02;j03;j12", 7);
        rows("j03;j04;j05;j13;j14;j23", 6);
        // Bars and marks do not matter.
        rows("j01;j12;x01;x02", 7);
    }

    /** All joins, with all pieces starts and ends: each set of pieces but none is a way. */
    private static void countOfAll() {
        CoverWays x = new CoverWays();
        for (int from = 0; from < 9; from++) {
            x.mark(from, 3);
            for (int to = from + 1; to < 9; to++) {
                x.join(from, to);
            }
        }
        Due.equal("count(0)", x.count(0), 36);
        Due.equal("count(4)", x.count(4), 511);
        Due.equal("count(5)", x.count(5), 511);
        Due.equal("count(6)", x.count(6), 511);
        Due.equal("count(7)", x.count(7), 1);
        Due.equal("count(8)", x.count(8), 1);
        Due.equal("pieceOf(4, 6)", x.pieceOf(4, 6), 256);
        x.bar(0, 8);
        Due.equal("count(5)", x.count(5), 511);
        Due.equal("count(6)", x.count(6), 383);
        Due.equal("pieceOf(8, 6): barred ways count", x.pieceOf(8, 6), 256);
        Due.equal("openWay(382)", x.openWay(382), Due.mask(8));
        Due.equal("openWay(383)", x.openWay(383), -1);
    }
}
