/** The terms of the document, sentence by sentence: the graph, splitting, rows, input text. */
public final class TermsEdgesTest {
    public static void main(String[] args) {
        calls();
        graph();
        ways();
        order();
        splitting();
        rows();
        Due.close("TermsEdgesTest");
    }

    // "An object is used for at most 512 calls": the last one of them is promised, too. What later
    // calls answer is free, so that no test asks.
    private static void calls() {
        Due.test("What it is: the 512th call is answered (steps refused)", () -> {
            CoverWays x = new CoverWays();
            for (int i = 1; i <= 511; i++) {
                Due.equal("step() number " + i, x.step(), 0);
            }
            Due.equal("count(10) as the 512th call", x.count(10), 511);
        });
        Due.test("What it is: the 512th call is answered (nine steps by each split())", () -> {
            CoverWays x = new CoverWays();
            for (int piece = 0; piece < 9; piece++) {
                x.mark(piece, 3);
                x.cover(piece, 1 + piece);
            }
            // 18 calls behind, 2 in each round: 510, and two more.
            for (int i = 1; i <= 246; i++) {
                Due.equal("split() number " + i, x.split(), 9);
                Due.equal("begin() number " + i, x.begin(), 9);
            }
            Due.equal("count(9) as the 511th call", x.count(9), 246 * 9);
            Due.equal("count(10) as the 512th call", x.count(10), 246);
        });
        Due.test("What it is: the 512th call is answered (undo)", () -> {
            CoverWays x = new CoverWays();
            for (int i = 1; i <= 510; i++) {
                x.cover(8, i);
            }
            Due.equal("undo() as the 511th call", x.undo(), 5);
            Due.equal("pieceOf(8, 0) as the 512th call", x.pieceOf(8, 0), 509);
        });
    }

    private static void graph() {
        Due.test("The graph: there are 9 pieces, numbered from 0", () -> {
            CoverWays x = new CoverWays();
            for (int piece = 0; piece < 9; piece++) {
                Due.equal("cover(" + piece + ", 1)", x.cover(piece, 1), 0);
            }
            Due.equal("count(1)", x.count(1), 9);
            Due.outOfBounds(x, "cover(-1, 1)", () -> x.cover(-1, 1));
            Due.outOfBounds(x, "cover(9, 1)", () -> x.cover(9, 1));
        });
        Due.test("The graph: each has a cover, at first 0", () -> {
            CoverWays x = new CoverWays();
            for (int piece = 0; piece < 9; piece++) {
                Due.equal("pieceOf(" + piece + ", 0)", x.pieceOf(piece, 0), 0);
            }
        });
        Due.test("The graph: a cover is 0 to 999", () -> {
            CoverWays x = new CoverWays();
            x.cover(4, 999);
            Due.equal("pieceOf(4, 0)", x.pieceOf(4, 0), 999);
            Due.wrongArgument(x, "cover(4, 1000)", () -> x.cover(4, 1000));
            x.cover(4, 0);
            Due.equal("pieceOf(4, 0)", x.pieceOf(4, 0), 0);
            Due.wrongArgument(x, "cover(4, -1)", () -> x.cover(4, -1));
        });
        Due.test("The graph: at first the piece 0 is a start, the piece 8 an end, the others neither", () -> {
            CoverWays x = new CoverWays();
            Due.equal("pieceOf(0, 2)", x.pieceOf(0, 2), 1);
            Due.equal("pieceOf(8, 2)", x.pieceOf(8, 2), 2);
            for (int piece = 1; piece < 8; piece++) {
                Due.equal("pieceOf(" + piece + ", 2)", x.pieceOf(piece, 2), 0);
            }
            x.join(0, 8);
            Due.equal("openWay(0)", x.openWay(0), 0b100000001);
        });
        Due.test("The graph: each piece can be a start, an end, or both", () -> {
            CoverWays x = new CoverWays();
            for (int piece = 0; piece < 9; piece++) {
                for (int what = 3; what >= 0; what--) {
                    x.mark(piece, what);
                    Due.equal("pieceOf(" + piece + ", 2)", x.pieceOf(piece, 2), what);
                }
            }
            Due.equal("pieceOf(0, 2) behind the others", x.pieceOf(0, 2), 0);
        });
        Due.test("The graph: from each piece to each greater one there is a join, or none, as at first", () -> {
            CoverWays x = new CoverWays();
            for (int from = 0; from < 9; from++) {
                for (int to = from + 1; to < 9; to++) {
                    Due.equal("isJoined(" + from + ", " + to + ") at first", x.isJoined(from, to), 0);
                    Due.equal("join(" + from + ", " + to + ")", x.join(from, to), 1);
                    Due.equal("isJoined(" + from + ", " + to + ")", x.isJoined(from, to), 1);
                }
            }
            Due.equal("count(0) with all joins", x.count(0), 36);
        });
        Due.test("The graph: any two unlike pieces can bar one another; at first none do", () -> {
            CoverWays x = new CoverWays();
            for (int piece = 0; piece < 9; piece++) {
                Due.equal("pieceOf(" + piece + ", 7) at first", x.pieceOf(piece, 7), 0);
            }
            for (int piece = 0; piece < 9; piece++) {
                for (int other = piece + 1; other < 9; other++) {
                    Due.equal("bar(" + piece + ", " + other + ")", x.bar(piece, other), 1);
                }
            }
            for (int piece = 0; piece < 9; piece++) {
                Due.equal("pieceOf(" + piece + ", 7)", x.pieceOf(piece, 7), 511 ^ 1 << piece);
            }
        });
    }

    private static void ways(String graph, int all, int open) {
        CoverWays x = Due.loaded(graph);
        Due.equal("count(4) of " + graph, x.count(4), all);
        Due.equal("count(5) of " + graph, x.count(5), all);
        Due.equal("count(6) of " + graph, x.count(6), open);
        Due.equal("openWay(" + open + ") of " + graph, x.openWay(open), -1);
        if (open > 0) {
            Due.tell(x.openWay(open - 1) > 0, "openWay(" + (open - 1) + ") of " + graph + " is none");
        }
    }

    private static void ways() {
        Due.test("The graph: a way has one or more pieces (one)", () -> ways("s4;e4", 1, 1));
        Due.test("The graph: a way has one or more pieces (all nine)", () -> {
            CoverWays x = Due.loaded("j01;j12;j23;j34;j45;j56;j67;j78;s0;e8");
            Due.equal("count(5)", x.count(5), 1);
            Due.equal("openWay(0)", x.openWay(0), 511);
        });
        Due.test("The graph: a way begins with a start", () -> {
            ways("j01;e0;e1", 0, 0);
            ways("j01;s1;e1", 1, 1);
        });
        Due.test("The graph: a way ends with an end", () -> {
            ways("j01;s0;s1", 0, 0);
            ways("j01;s0;e0", 1, 1);
        });
        Due.test("The graph: a join leads from each piece of a way to the next one", () -> {
            ways("s0;e8", 0, 0);
            ways("j01;j78;s0;e8", 0, 0);
            ways("j01;j18;s0;e8", 1, 1);
            // Joins lead to greater pieces alone: from a greater start nothing leads back.
            ways("j01;s1;e0", 0, 0);
        });
        Due.test("The graph: a start that is an end, too, is a way by itself", () -> {
            ways("s8;e8", 1, 1);
            ways("s0;e0", 1, 1);
            ways("s0", 0, 0);
            ways("e0", 0, 0);
        });
        Due.test("The graph: a way may pass through starts and ends", () -> {
            CoverWays x = Due.loaded("j01;j12;s0;s1;e1;e2");
            Due.equal("count(5)", x.count(5), 4);
            Due.equal("openWay(1), through 1", x.openWay(1), 0b111);
            ways("j01;j12;s0;s1;e2", 2, 2);
            ways("j01;j12;s0;e1;e2", 2, 2);
        });
        Due.test("The graph: a way is barred, if two of its pieces bar one another", () -> {
            ways("j01;j12;s0;e2;x01", 1, 0);
            ways("j01;j12;s0;e2;x12", 1, 0);
            ways("j01;j12;s0;e2;x02", 1, 0);
            ways("j01;j12;j23;j34;j45;j56;j67;j78;s0;e8;x08", 1, 0);
        });
        Due.test("The graph: a way is open, if no two of its pieces bar one another", () -> {
            ways("j01;j12;s0;e2;x03", 1, 1);
            ways("j01;j12;s0;e2;x34;x28", 1, 1);
            ways("s0;e0;x01", 1, 1);
        });
    }

    private static void inOrder(String graph, int... due) {
        CoverWays x = Due.loaded(graph);
        for (int rank = 0; rank < due.length; rank++) {
            Due.equal("openWay(" + rank + ") of " + graph, x.openWay(rank), due[rank]);
        }
        Due.equal("openWay(" + due.length + ") of " + graph, x.openWay(due.length), -1);
    }

    private static void order() {
        Due.test("The graph: ways are compared by their first pieces, the lesser ahead", () ->
                inOrder("s8;e8;s3;e3;s0;e0", Due.mask(0), Due.mask(3), Due.mask(8)));
        Due.test("The graph: then by their second ones", () ->
                inOrder("j03;j02;j38;j28;j08;s0;e8", Due.mask(0, 2, 8), Due.mask(0, 3, 8), Due.mask(0, 8)));
        Due.test("The graph: and so on", () ->
                inOrder("j01;j12;j23;j38;j24;j48;s0;e8", Due.mask(0, 1, 2, 3, 8), Due.mask(0, 1, 2, 4, 8)));
        Due.test("The graph: more pieces of a way do not put it behind one with a greater second piece", () ->
                inOrder("j01;j12;j28;j02;j08;s0;e8", Due.mask(0, 1, 2, 8), Due.mask(0, 2, 8), Due.mask(0, 8)));
        Due.test("The graph: a way that another one begins with is ahead of it", () -> {
            inOrder("j01;s0;e0;e1", Due.mask(0), Due.mask(0, 1));
            inOrder("j01;j12;s0;e0;e1;e2", Due.mask(0), Due.mask(0, 1), Due.mask(0, 1, 2));
            inOrder("j02;j01;s0;e0;e1;e2", Due.mask(0), Due.mask(0, 1), Due.mask(0, 2));
        });
    }

    private static void splitting() {
        Due.test("Splitting: a rest is the cover when the splitting is begun anew", () -> {
            CoverWays x = Due.loaded("c0=999;c3=0;c8=1;s0;e0");
            Due.equal("pieceOf(0, 1)", x.pieceOf(0, 1), 999);
            Due.equal("pieceOf(3, 1)", x.pieceOf(3, 1), 0);
            Due.equal("pieceOf(8, 1)", x.pieceOf(8, 1), 1);
            x.step();
            x.begin();
            Due.equal("pieceOf(0, 1) behind begin()", x.pieceOf(0, 1), 999);
        });
        Due.test("Splitting: the weight is the least rest of the pieces, at whichever place", () -> {
            heaviest("j01;j12;s0;e2;c0=5;c1=7;c2=9", 5, 0b111);
            heaviest("j01;j12;s0;e2;c0=7;c1=5;c2=9", 5, 0b111);
            heaviest("j01;j12;s0;e2;c0=9;c1=7;c2=5", 5, 0b111);
            heaviest("j01;j12;s0;e2;c0=9;c1=0;c2=5", 0, 0b111);
            heaviest("s8;e8;c8=999;c7=1", 999, 0b100000000);
        });
        Due.test("Splitting: the weight is told by the rests, not by the covers", () -> {
            CoverWays x = Due.loaded("c0=9;c1=4;j01;s0;e1");
            x.step();
            Due.equal("heaviest(0)", x.heaviest(0), 0);
        });
        Due.test("Splitting: the heaviest way is the open one with the greatest weight", () -> {
            heaviest("s0;e0;s1;e1;s2;e2;c0=3;c1=5;c2=4", 5, 0b10);
            heaviest("s0;e0;s1;e1;s2;e2;c0=3;c1=5;c2=6", 6, 0b100);
            heaviest("j01;s0;e1;s2;e2;c0=9;c1=9;c2=1;x01", 1, 0b100);
        });
        Due.test("Splitting: of several the heaviest way is the first one", () -> {
            heaviest("s0;e0;s1;e1;s2;e2;c0=5;c1=5;c2=5", 5, 0b1);
            heaviest("s0;e0;s1;e1;s2;e2;c0=4;c1=5;c2=5", 5, 0b10);
            // 0 1 8 comes ahead of 0 8, and 0 ahead of 0 1.
            heaviest("j08;j01;j18;s0;e8;c0=5;c1=5;c8=5", 5, 0b100000011);
            heaviest("j01;s0;e0;e1;c0=5;c1=5", 5, 0b1);
            heaviest("s3;e3;s8;e8", 0, 0b1000);
        });
        Due.test("Splitting: a step is refused, if there is no open way with a weight above 0 (1 is)", () -> {
            CoverWays x = Due.loaded("c0=1;c1=999;j01;s0;e1");
            Due.equal("step() of the weight 1", x.step(), 1);
            Due.equal("step() of the weight 0", x.step(), 0);
            Due.equal("count(9)", x.count(9), 1);
            Due.equal("count(10)", x.count(10), 1);
        });
        mostNoted();
        anew();
    }

    // "A step is refused, .. if 12 ways are noted": no run can reach this. A step with a weight
    // above 0 leaves one of its pieces, all of which had a rest above 0, without rest, and a rest
    // grows only where the splitting begins anew, or where a state comes back with its own ways:
    // so at most nine ways are noted at a time, which the next test has. The twelve stand in the
    // program all the same.
    private static void mostNoted() {
        Due.test("Splitting: the most ways that can be noted, nine, are", () -> {
            CoverWays x = new CoverWays();
            for (int piece = 0; piece < 9; piece++) {
                x.mark(piece, 3);
                x.cover(piece, 990 + piece);
            }
            for (int i = 8; i >= 0; i--) {
                Due.equal("step()", x.step(), 990 + i);
            }
            Due.equal("count(3)", x.count(3), 9);
            Due.equal("noted(8, 1)", x.noted(8, 1), 1);
            Due.equal("step() with nine noted", x.step(), 0);
            Due.equal("count(3)", x.count(3), 9);
        });
    }

    private static void anew() {
        // join() and bar() always change the graph: only cover(), mark() and load() can leave it.
        Due.test("Splitting: a call that leaves the graph as it is begins anew (cover)", () ->
                isAnew(x -> x.cover(0, 10), 0));
        Due.test("Splitting: a call that leaves the graph as it is begins anew (mark)", () ->
                isAnew(x -> x.mark(5, 0), 0));
        Due.test("Splitting: a call that leaves the graph as it is begins anew (load)", () ->
                isAnew(x -> x.load(), Made.GRAPH.length()));
        Due.test("Splitting: what changes the graph begins anew (join of pieces without ways)", () ->
                isAnew(x -> x.join(5, 6), 0));
        Due.test("Splitting: what changes the graph begins anew (bar of pieces without ways)", () ->
                isAnew(x -> x.bar(5, 6), 0));
        Due.test("Splitting: what begins it anew leaves what is counted so far", () -> {
            isCounted("cover", x -> x.cover(1, 5));
            isCounted("join", x -> x.join(3, 4));
            isCounted("mark", x -> x.mark(3, 3));
            isCounted("bar", x -> x.bar(3, 4));
            isCounted("begin", x -> x.begin());
            isCounted("load", x -> x.load());
        });
        Due.test("Splitting: a refused call does not begin anew", () -> {
            CoverWays x = Made.stepped();
            Due.outOfBounds(x, "cover(9, 0)", () -> x.cover(9, 0));
            Due.wrongArgument(x, "join(1, 1)", () -> x.join(1, 1));
            Due.wrongArgument(x, "mark(0, 4)", () -> x.mark(0, 4));
            Due.wrongArgument(x, "bar(1, 1)", () -> x.bar(1, 1));
            Due.wrongArgument(x, "load()", () -> x.load());
            Due.equal("count(3)", x.count(3), 1);
            Due.equal("count(2)", x.count(2), 10);
        });
    }

    private static void isAnew(Due.CallOn call, int typed) {
        CoverWays x = Made.stepped();
        Due.type(x, Made.GRAPH.substring(0, typed));
        Due.equal("count(2) ahead", x.count(2), 10);
        call.answer(x);
        Due.equal("count(3)", x.count(3), 0);
        Due.equal("noted(0, 0)", x.noted(0, 0), -1);
        Due.equal("count(2)", x.count(2), 28);
        Due.equal("pieceOf(2, 1)", x.pieceOf(2, 1), 6);
        Due.equal("step()", x.step(), 6);
    }

    private static void isCounted(String name, Due.CallOn call) {
        CoverWays x = Made.loaded();
        x.split();
        Due.type(x, "s0");
        call.answer(x);
        Due.equal("count(9) behind " + name, x.count(9), 2);
        Due.equal("count(10) behind " + name, x.count(10), 1);
        Due.equal("count(3) behind " + name, x.count(3), 0);
    }

    private static void heaviest(String graph, int weight, int mask) {
        CoverWays x = Due.loaded(graph);
        Due.equal("heaviest(0) of " + graph, x.heaviest(0), weight);
        Due.equal("heaviest(1) of " + graph, x.heaviest(1), mask);
        Due.equal("step() of " + graph, x.step(), weight);
        Due.equal("noted(0, 1) of " + graph, x.noted(0, 1), weight == 0 ? -1 : mask);
    }

    private static void behind(String graph, int piece, int due) {
        Due.equal("pieceOf(" + piece + ", 5) of " + graph, Due.loaded(graph).pieceOf(piece, 5), due);
    }

    private static void fewest(String graph, int due) {
        CoverWays x = Due.loaded(graph);
        Due.equal("count(7) of " + graph, x.count(7), due);
        Due.equal("count(8) of " + graph, x.count(8), due);
    }

    private static void rows() {
        Due.test("Rows: a piece comes behind another one by one or more joins", () -> {
            behind("j78", 7, 1);
            behind("j78", 8, 0);
            behind("j78", 6, 0);
            behind("j01;j12", 0, 2);
            behind("j01;j12;j23;j34;j45;j56;j67;j78", 0, 8);
        });
        Due.test("Rows: a row may leave out pieces that are between its own", () -> {
            fewest("j01;j12", 7);
            // 0 2 3 and 1 4, by way of 2.
            fewest("j02;j12;j23;j24", 6);
        });
        Due.test("Rows: a row may be one piece; without joins each is", () -> fewest("s0", 9));
        Due.test("Rows: the fewest rows with one join", () -> fewest("j08", 8));
        Due.test("Rows: one row can have all pieces", () -> fewest("j01;j12;j23;j34;j45;j56;j67;j78", 1));
        Due.test("Rows: starts, ends and bars do not matter", () -> {
            fewest("j01;j12;x01;x12;x02", 7);
            fewest("j01;j12;s8;e0", 7);
            fewest("j01;j12;s0;s1;s2;e0;e1;e2", 7);
        });
        Due.test("Rows: the first pair that is found may have to give way", () -> {
            fewest("j02;j03;j12", 7);
            fewest("j03;j04;j05;j13;j14;j23", 6);
        });
    }
}
