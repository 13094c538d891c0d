/** Promises 16 to 19, sentence by sentence: pieceOf, isJoined, noted, count. */
public final class LooksEdgesTest {
    private static final int MIN = Integer.MIN_VALUE;
    private static final int MAX = Integer.MAX_VALUE;
    private static final Class<?> NO_PIECE = IndexOutOfBoundsException.class;
    private static final Class<?> WRONG = IllegalArgumentException.class;

    public static void main(String[] args) {
        coversAndMarks();
        joinsOfPieces();
        waysOfPieces();
        pieceOfRefuses();
        isJoined();
        noted();
        notedRefuses();
        sums();
        ways();
        waysOfTheGraphNow();
        rows();
        counted();
        countRefuses();
        Due.close("LooksEdgesTest");
    }

    private static void properties(String graph, int what, int... due) {
        CoverWays x = Due.loaded(graph);
        for (int piece = 0; piece < 9; piece++) {
            Due.equal("pieceOf(" + piece + ", " + what + ") of " + graph, x.pieceOf(piece, what), due[piece]);
        }
    }

    /** All joins there can be, and each piece a start and an end. */
    private static CoverWays whole() {
        CoverWays x = new CoverWays();
        for (int from = 0; from < 9; from++) {
            x.mark(from, 3);
            for (int to = from + 1; to < 9; to++) {
                x.join(from, to);
            }
        }
        return x;
    }

    private static void coversAndMarks() {
        Due.test("Promise 16: 0: its cover, of each piece", () ->
                properties("c0=1;c1=0;c2=2;c3=3;c4=44;c5=5;c6=6;c7=777;c8=999", 0, 1, 0, 2, 3, 44, 5, 6, 777, 999));
        Due.test("Promise 16: 1: its rest, which a step makes less", () -> {
            CoverWays x = Made.stepped();
            int[] due = {4, 3, 0, 0, 0, 0, 0, 0, 3};
            for (int piece = 0; piece < 9; piece++) {
                Due.equal("pieceOf(" + piece + ", 1)", x.pieceOf(piece, 1), due[piece]);
            }
            Due.equal("pieceOf(2, 0): the cover stays", x.pieceOf(2, 0), 6);
        });
        Due.test("Promise 16: 2: what it is, as for mark()", () ->
                properties("s0;s1;e1;e3;s8", 2, 1, 3, 0, 2, 0, 0, 0, 0, 1));
        Due.test("Promise 16: 7: pieces that it bars, as a mask with the bit p for the piece p", () ->
                properties("x08;x01;x12;x78", 7, 0b100000010, 0b101, 0b10, 0, 0, 0, 0, 0b100000000, 0b10000001));
        for (int what = 0; what < 8; what++) {
            int its = what;
            Due.lookTest("Promise 16", "pieceOf(0, " + what + ")", x -> x.pieceOf(0, its));
            Due.lookTest("Promise 16", "pieceOf(8, " + what + ")", x -> x.pieceOf(8, its));
        }
    }

    private static void joinsOfPieces() {
        Due.test("Promise 16: 3: joins to it", () -> {
            properties("j08;j18;j78;j01", 3, 0, 1, 0, 0, 0, 0, 0, 0, 3);
            Due.equal("pieceOf(8, 3) with all joins", whole().pieceOf(8, 3), 8);
            Due.equal("pieceOf(0, 3) with all joins", whole().pieceOf(0, 3), 0);
            Due.equal("pieceOf(4, 3) with all joins", whole().pieceOf(4, 3), 4);
        });
        Due.test("Promise 16: 4: joins from it", () -> {
            properties("j08;j18;j78;j01", 4, 2, 1, 0, 0, 0, 0, 0, 1, 0);
            Due.equal("pieceOf(0, 4) with all joins", whole().pieceOf(0, 4), 8);
            Due.equal("pieceOf(8, 4) with all joins", whole().pieceOf(8, 4), 0);
            Due.equal("pieceOf(5, 4) with all joins", whole().pieceOf(5, 4), 3);
        });
        Due.test("Promise 16: 5: pieces that come behind it, by one or more joins, each once", () -> {
            properties("j01;j12;j23;j34;j45;j56;j67;j78", 5, 8, 7, 6, 5, 4, 3, 2, 1, 0);
            properties("j01;j02;j13;j23;j38", 5, 4, 2, 2, 1, 0, 0, 0, 0, 0);
            properties("s0;e8", 5, 0, 0, 0, 0, 0, 0, 0, 0, 0);
            Due.equal("pieceOf(0, 5) with all joins", whole().pieceOf(0, 5), 8);
        });
    }

    private static void waysOfPieces() {
        Due.test("Promise 16: 6: ways, open or barred, in which it is", () -> {
            // 0 1 8 and 0 2 8, both barred or one of them.
            properties("j01;j02;j18;j28;s0;e8", 6, 2, 1, 1, 0, 0, 0, 0, 0, 2);
            properties("j01;j02;j18;j28;s0;e8;x01", 6, 2, 1, 1, 0, 0, 0, 0, 0, 2);
            properties("j01;j02;j18;j28;s0;e8;x08", 6, 2, 1, 1, 0, 0, 0, 0, 0, 2);
        });
        Due.test("Promise 16: 6: a piece by itself, and a piece that ways go through", () -> {
            properties("s4;e4", 6, 0, 0, 0, 0, 1, 0, 0, 0, 0);
            properties("j01;j12;s0;s1;e1;e2", 6, 2, 4, 2, 0, 0, 0, 0, 0, 0);
        });
        Due.test("Promise 16: 6: no way (a join from a start alone, and an end alone)", () ->
                properties("j01;s0;e2", 6, 0, 0, 0, 0, 0, 0, 0, 0, 0));
        Due.test("Promise 16: 6: the most ways there can be, 511", () -> {
            CoverWays x = whole();
            for (int piece = 0; piece < 9; piece++) {
                Due.equal("pieceOf(" + piece + ", 6)", x.pieceOf(piece, 6), 256);
            }
        });
    }

    private static void pieceOfRefuses() {
        Due.refusedTest("Promise 16", NO_PIECE, "pieceOf(-1, 0)", x -> x.pieceOf(-1, 0));
        Due.refusedTest("Promise 16", NO_PIECE, "pieceOf(9, 7)", x -> x.pieceOf(9, 7));
        Due.refusedTest("Promise 16", NO_PIECE, "pieceOf(MIN, 0)", x -> x.pieceOf(MIN, 0));
        Due.refusedTest("Promise 16", NO_PIECE, "pieceOf(MAX, 0)", x -> x.pieceOf(MAX, 0));
        Due.refusedTest("Promise 16", WRONG, "pieceOf(0, -1)", x -> x.pieceOf(0, -1));
        Due.refusedTest("Promise 16", WRONG, "pieceOf(8, 8)", x -> x.pieceOf(8, 8));
        Due.refusedTest("Promise 16", WRONG, "pieceOf(4, MIN)", x -> x.pieceOf(4, MIN));
        Due.refusedTest("Promise 16", WRONG, "pieceOf(4, MAX)", x -> x.pieceOf(4, MAX));
        Due.refusedTest("Promise 16, both apply", NO_PIECE, "pieceOf(-1, -1)", x -> x.pieceOf(-1, -1));
        Due.refusedTest("Promise 16, both apply", NO_PIECE, "pieceOf(9, 8)", x -> x.pieceOf(9, 8));
        for (int what = 0; what < 8; what++) {
            int its = what;
            Due.refusedTest("Promise 16", NO_PIECE, "pieceOf(9, " + what + ")", x -> x.pieceOf(9, its));
        }
    }

    private static void isJoined() {
        Due.test("Promise 17: 1 if there is one, otherwise 0", () -> {
            CoverWays x = Due.loaded("j08;j78;j34");
            for (int from = 0; from < 9; from++) {
                for (int to = 0; to < 9; to++) {
                    int due = "j08;j78;j34".contains("j" + from + to) ? 1 : 0;
                    Due.equal("isJoined(" + from + ", " + to + ")", x.isJoined(from, to), due);
                }
            }
        });
        Due.test("Promise 17: from a piece to itself or to a lesser one there is none, with all joins", () -> {
            CoverWays x = whole();
            for (int from = 0; from < 9; from++) {
                for (int to = 0; to < 9; to++) {
                    Due.equal("isJoined(" + from + ", " + to + ")", x.isJoined(from, to), from < to ? 1 : 0);
                }
            }
        });
        Due.test("Promise 17: a way of several joins is none", () ->
                Due.equal("isJoined(0, 2)", Due.loaded("j01;j12").isJoined(0, 2), 0));
        Due.lookTest("Promise 17", "isJoined(0, 8)", x -> x.isJoined(0, 8));
        Due.lookTest("Promise 17", "isJoined(8, 0)", x -> x.isJoined(8, 0));
        Due.refusedTest("Promise 17", NO_PIECE, "isJoined(-1, 0)", x -> x.isJoined(-1, 0));
        Due.refusedTest("Promise 17", NO_PIECE, "isJoined(0, -1)", x -> x.isJoined(0, -1));
        Due.refusedTest("Promise 17", NO_PIECE, "isJoined(9, 8)", x -> x.isJoined(9, 8));
        Due.refusedTest("Promise 17", NO_PIECE, "isJoined(8, 9)", x -> x.isJoined(8, 9));
        Due.refusedTest("Promise 17", NO_PIECE, "isJoined(9, 9)", x -> x.isJoined(9, 9));
        Due.refusedTest("Promise 17", NO_PIECE, "isJoined(MIN, 0)", x -> x.isJoined(MIN, 0));
        Due.refusedTest("Promise 17", NO_PIECE, "isJoined(0, MAX)", x -> x.isJoined(0, MAX));
    }

    private static void noted() {
        Due.test("Promise 18: ranks from 0, in the order in which they were taken", () -> {
            CoverWays x = Due.loaded("s0;e0;s3;e3;s8;e8;c0=2;c3=9;c8=5");
            x.split();
            int[][] due = {{9, Due.mask(3), 1}, {5, Due.mask(8), 1}, {2, Due.mask(0), 1}, {-1, -1, -1}};
            for (int rank = 0; rank < due.length; rank++) {
                for (int what = 0; what < 3; what++) {
                    Due.equal("noted(" + rank + ", " + what + ")", x.noted(rank, what), due[rank][what]);
                }
            }
        });
        Due.test("Promise 18: 2: how many pieces it has (1, 3, 9)", () -> {
            Due.equal("noted(0, 2)", Made.stepped().noted(0, 2), 3);
            CoverWays x = whole();
            x.cover(0, 1);
            x.step();
            Due.equal("noted(0, 2)", x.noted(0, 2), 1);
            CoverWays y = new CoverWays();
            for (int piece = 0; piece < 9; piece++) {
                y.cover(piece, 7);
                if (piece < 8) {
                    y.join(piece, piece + 1);
                }
            }
            y.step();
            Due.equal("noted(0, 2) of all", y.noted(0, 2), 9);
            Due.equal("noted(0, 1) of all", y.noted(0, 1), 511);
        });
        Due.test("Promise 18: NONE if not so many are noted (none, one, nine)", () -> {
            CoverWays x = whole();
            Due.equal("noted(0, 0) of none", x.noted(0, 0), -1);
            for (int piece = 0; piece < 9; piece++) {
                x.cover(piece, 5);
            }
            x.bar(0, 1);
            for (int rank = 0; rank < 9; rank++) {
                Due.equal("noted(" + rank + ", 1) ahead", x.noted(rank, 1), -1);
                if (x.step() > 0) {
                    Due.tell(x.noted(rank, 1) > 0, "noted(" + rank + ", 1) is none");
                    Due.equal("noted(" + rank + ", 0)", x.noted(rank, 0), 5);
                }
            }
            CoverWays y = new CoverWays();
            for (int piece = 0; piece < 9; piece++) {
                y.mark(piece, 3);
                y.cover(piece, 5);
            }
            y.split();
            for (int what = 0; what < 3; what++) {
                Due.equal("noted(8, " + what + ") of nine", y.noted(8, what), what == 0 ? 5 : what == 1 ? 256 : 1);
                // More than nine are never noted: TermsEdgesTest says why.
                for (int rank : new int[] {9, 10, 11, 12, 13, MAX}) {
                    Due.equal("noted(" + rank + ", " + what + ") of nine", y.noted(rank, what), -1);
                }
            }
        });
        Due.lookTest("Promise 18", "noted(0, 0)", x -> x.noted(0, 0));
        Due.lookTest("Promise 18", "noted(1, 2)", x -> x.noted(1, 2));
    }

    private static void notedRefuses() {
        Due.refusedTest("Promise 18", WRONG, "noted(-1, 0)", x -> x.noted(-1, 0));
        Due.refusedTest("Promise 18", WRONG, "noted(MIN, 2)", x -> x.noted(MIN, 2));
        Due.refusedTest("Promise 18", WRONG, "noted(0, -1)", x -> x.noted(0, -1));
        Due.refusedTest("Promise 18", WRONG, "noted(0, 3)", x -> x.noted(0, 3));
        Due.refusedTest("Promise 18", WRONG, "noted(0, MIN)", x -> x.noted(0, MIN));
        Due.refusedTest("Promise 18", WRONG, "noted(0, MAX)", x -> x.noted(0, MAX));
        Due.refusedTest("Promise 18, not so many are noted", WRONG, "noted(9, 3)", x -> x.noted(9, 3));
        Due.refusedTest("Promise 18, not so many are noted", WRONG, "noted(MAX, -1)", x -> x.noted(MAX, -1));
    }

    private static void counts(String graph, int what, int due) {
        Due.equal("count(" + what + ") of " + graph, Due.loaded(graph).count(what), due);
    }

    private static void sums() {
        Due.test("Promise 19: 0: joins (none, all 36, one less)", () -> {
            Due.equal("count(0)", new CoverWays().count(0), 0);
            CoverWays x = whole();
            Due.equal("count(0)", x.count(0), 36);
            x.join(0, 8);
            Due.equal("count(0)", x.count(0), 35);
        });
        Due.test("Promise 19: 1: all covers together, 2: all rests together (none, the most)", () -> {
            CoverWays x = new CoverWays();
            Due.equal("count(1)", x.count(1), 0);
            for (int piece = 0; piece < 9; piece++) {
                x.cover(piece, 999);
            }
            Due.equal("count(1)", x.count(1), 8991);
            Due.equal("count(2)", x.count(2), 8991);
        });
        Due.test("Promise 19: a step makes the rests less, each piece of its way, and not the covers", () -> {
            CoverWays x = Made.stepped();
            Due.equal("count(1)", x.count(1), 28);
            Due.equal("count(2)", x.count(2), 10);
        });
        Due.test("Promise 19: 3: ways noted (none, one, two; none behind what begins anew)", () -> {
            CoverWays x = Made.loaded();
            Due.equal("count(3)", x.count(3), 0);
            x.step();
            Due.equal("count(3)", x.count(3), 1);
            x.split();
            Due.equal("count(3)", x.count(3), 2);
            x.step();
            Due.equal("count(3) behind a refused step", x.count(3), 2);
            x.begin();
            Due.equal("count(3)", x.count(3), 0);
        });
    }

    private static void ways() {
        Due.test("Promise 19: 4 and 5: ways, open or barred; 6: open ways (none)", () -> {
            for (int what = 4; what <= 6; what++) {
                Due.equal("count(" + what + ") of a new object", new CoverWays().count(what), 0);
                counts("j01;s1;e0", what, 0);
            }
        });
        Due.test("Promise 19: 4 and 5: ways, open or barred; 6: open ways (all that there can be)", () -> {
            CoverWays x = whole();
            Due.equal("count(4)", x.count(4), 511);
            Due.equal("count(5)", x.count(5), 511);
            Due.equal("count(6)", x.count(6), 511);
            x.bar(4, 5);
            Due.equal("count(4) with a bar", x.count(4), 511);
            Due.equal("count(5) with a bar", x.count(5), 511);
            Due.equal("count(6) with a bar", x.count(6), 383);
        });
        Due.test("Promise 19: 4 and 5: ways, open or barred; 6: open ways (all of them barred)", () -> {
            for (int what = 4; what <= 6; what++) {
                counts("j01;j12;s0;e2;x02", what, what == 6 ? 0 : 1);
            }
        });
        Due.test("Promise 19: 4 and 5: ways through starts and ends count each", () -> {
            for (int what = 4; what <= 6; what++) {
                counts("j01;j12;s0;s1;s2;e0;e1;e2", what, 6);
                counts("j01;j02;j12;s0;s1;s2;e0;e1;e2", what, 7);
            }
        });
    }

    private static void waysNow(String call, CoverWays x, int all, int open, int first, int main) {
        Due.equal("count(4) behind " + call, x.count(4), all);
        Due.equal("count(5) behind " + call, x.count(5), all);
        Due.equal("count(6) behind " + call, x.count(6), open);
        Due.equal("openWay(0) behind " + call, x.openWay(0), first);
        Due.equal("mainPiece() behind " + call, x.mainPiece(), main);
        Due.equal("heaviest(1) behind " + call, x.heaviest(1), first);
        Due.equal("pieceOf(8, 6) behind " + call, x.pieceOf(8, 6), all);
    }

    private static void waysOfTheGraphNow() {
        Due.test("Promise 19: 4 to 6: the ways of the graph as it is behind each call that changes it", () -> {
            CoverWays x = Due.loaded("j01;j18;j28;s0;e8");
            waysNow("load()", x, 1, 1, Due.mask(0, 1, 8), 0);
            x.join(0, 2);
            waysNow("join(0, 2)", x, 2, 2, Due.mask(0, 1, 8), 0);
            x.join(0, 1);
            waysNow("join(0, 1), which takes it away,", x, 1, 1, Due.mask(0, 2, 8), 0);
            x.keep(0);
            x.mark(1, 1);
            waysNow("mark(1, 1)", x, 2, 2, Due.mask(0, 2, 8), 8);
            x.bar(2, 8);
            waysNow("bar(2, 8)", x, 2, 1, Due.mask(1, 8), 1);
            x.bar(1, 8);
            waysNow("bar(1, 8)", x, 2, 0, -1, -1);
            x.undo();
            waysNow("undo() of bar(1, 8)", x, 2, 1, Due.mask(1, 8), 1);
            x.goBack(0);
            waysNow("goBack(0)", x, 1, 1, Due.mask(0, 2, 8), 0);
            x.mark(8, 0);
            waysNow("mark(8, 0)", x, 0, 0, -1, -1);
            x.undo();
            x.undo();
            waysNow("undo() of goBack(0)", x, 2, 1, Due.mask(1, 8), 1);
            Due.type(x, "j08;s0;e8");
            x.load();
            waysNow("load() of another graph", x, 1, 1, Due.mask(0, 8), 0);
        });
        Due.test("Promise 19: 7 and 8: the rows of the graph as it is behind each call that changes it", () -> {
            CoverWays x = new CoverWays();
            x.keep(0);
            for (int piece = 0; piece < 8; piece++) {
                x.join(piece, piece + 1);
                Due.equal("count(7) behind join " + piece, x.count(7), 8 - piece);
                Due.equal("count(8) behind join " + piece, x.count(8), 8 - piece);
                Due.equal("pieceOf(0, 5) behind join " + piece, x.pieceOf(0, 5), piece + 1);
            }
            x.join(4, 5);
            Due.equal("count(7) with the row cut", x.count(7), 2);
            Due.equal("count(8) with the row cut", x.count(8), 2);
            Due.equal("pieceOf(0, 5) with the row cut", x.pieceOf(0, 5), 4);
            x.goBack(0);
            Due.equal("count(7) behind goBack(0)", x.count(7), 9);
            Due.equal("count(8) behind goBack(0)", x.count(8), 9);
            x.undo();
            Due.equal("count(7) behind undo()", x.count(7), 2);
            Due.equal("count(8) behind undo()", x.count(8), 2);
        });
    }

    private static void rows() {
        Due.test("Promise 19: 7 and 8: the fewest rows (nine, eight, one)", () -> {
            for (int what = 7; what <= 8; what++) {
                Due.equal("count(" + what + ") of a new object", new CoverWays().count(what), 9);
                counts("j78", what, 8);
                counts("j01;j12;j23;j34;j45;j56;j67;j78", what, 1);
                Due.equal("count(" + what + ") with all joins", whole().count(what), 1);
            }
        });
        Due.test("Promise 19: 7 and 8: pieces of which none comes behind another one are a row each", () -> {
            for (int what = 7; what <= 8; what++) {
                counts("j04;j14;j24;j34;j45;j46;j47;j48", what, 4);
                counts("j08;j18;j28;j38;j48;j58;j68;j78", what, 8);
                counts("j01;j02;j03;j04;j05;j06;j07;j08", what, 8);
                counts("j03;j13;j23;j34;j35;j36", what, 5);
            }
        });
    }

    private static void counted() {
        Due.test("Promise 19: 9: steps of splitting so far, 10: refused so far", () -> {
            CoverWays x = Made.loaded();
            Due.equal("count(9)", x.count(9), 0);
            Due.equal("count(10)", x.count(10), 0);
            x.step();
            Due.equal("count(9) behind a step", x.count(9), 1);
            Due.equal("count(10) behind a step", x.count(10), 0);
            x.split();
            Due.equal("count(9) behind split()", x.count(9), 2);
            Due.equal("count(10) behind split()", x.count(10), 1);
            x.step();
            Due.equal("count(9) behind a refused step", x.count(9), 2);
            Due.equal("count(10) behind a refused step", x.count(10), 2);
        });
        Due.test("Promise 19: 9 and 10: so far, also when the splitting is begun anew", () -> {
            CoverWays x = Made.loaded();
            x.split();
            x.begin();
            x.split();
            x.cover(0, 10);
            x.split();
            Due.equal("count(9)", x.count(9), 6);
            Due.equal("count(10)", x.count(10), 3);
        });
        Due.test("Promise 19: 10: a call that throws is not counted as refused, nor a step that would be", () -> {
            CoverWays x = new CoverWays();
            Due.wrongArgument(x, "join(1, 1)", () -> x.join(1, 1));
            x.ifSplit();
            Due.equal("count(10)", x.count(10), 0);
        });
        Due.test("Promise 19: 11: saved states (0, 1, 6)", () -> {
            CoverWays x = new CoverWays();
            Due.equal("count(11)", x.count(11), 0);
            x.begin();
            Due.equal("count(11)", x.count(11), 1);
            for (int i = 0; i < 5; i++) {
                x.begin();
            }
            Due.equal("count(11)", x.count(11), 6);
            x.begin();
            Due.equal("count(11)", x.count(11), 6);
            x.undo();
            Due.equal("count(11)", x.count(11), 5);
        });
        for (int what = 0; what < 12; what++) {
            int its = what;
            Due.lookTest("Promise 19", "count(" + what + ")", x -> x.count(its));
        }
    }

    private static void countRefuses() {
        for (int what : new int[] {-1, 12, MIN, MAX}) {
            Due.refusedTest("Promise 19", WRONG, "count(" + what + ")", x -> x.count(what));
        }
    }
}
