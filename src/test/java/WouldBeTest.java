/** Promises 20 to 24: heaviest, openWay, ifSplit, mainPiece, explained. */
public final class WouldBeTest {
    public static void main(String[] args) {
        heaviest();
        openWay();
        openWaysInOrder();
        ifSplit();
        mainPiece();
        explained();
        Due.close("WouldBeTest");
    }

    private static void heaviest() {
        CoverWays x = Due.loaded("c0=10;c1=3;c2=6;c8=9;j01;j02;j18;j28;s0;e8");
        Due.equal("heaviest(0)", x.heaviest(0), 6);
        Due.equal("heaviest(1)", x.heaviest(1), Due.mask(0, 2, 8));
        x.step();
        Due.equal("heaviest(0) by the rests", x.heaviest(0), 3);
        Due.equal("heaviest(1)", x.heaviest(1), Due.mask(0, 1, 8));
        x.step();
        Due.equal("heaviest(0) of 0", x.heaviest(0), 0);
        Due.equal("heaviest(1): of several the first one", x.heaviest(1), Due.mask(0, 1, 8));
        x.bar(0, 2);
        Due.equal("heaviest(0) of open ways", x.heaviest(0), 3);
        x.bar(8, 0);
        Due.equal("heaviest(0) without open ways", x.heaviest(0), -1);
        Due.equal("heaviest(1) without open ways", x.heaviest(1), -1);
        Due.wrongArgument(x, "heaviest(-1)", () -> x.heaviest(-1));
        Due.wrongArgument(x, "heaviest(2)", () -> x.heaviest(2));
        // A way that another one begins with is ahead of it.
        CoverWays y = Due.loaded("c0=5;c1=5;j01;s0;e0;e1");
        Due.equal("heaviest(1)", y.heaviest(1), Due.mask(0));
        CoverWays z = Due.loaded("c0=999;s0;e0");
        Due.equal("heaviest(0)", z.heaviest(0), 999);
    }

    private static void openWay() {
        CoverWays x = Due.loaded("s0;e1");
        Due.equal("openWay(0) without ways", x.openWay(0), -1);
        Due.wrongArgument(x, "openWay(-1)", () -> x.openWay(-1));
        Due.wrongArgument(x, "openWay(MIN)", () -> x.openWay(Integer.MIN_VALUE));
        Due.equal("openWay(MAX)", x.openWay(Integer.MAX_VALUE), -1);
        Due.equal("openWay(512)", x.openWay(512), -1);
    }

    private static void inOrder(String graph, int... due) {
        CoverWays x = Due.loaded(graph);
        for (int rank = 0; rank < due.length; rank++) {
            Due.equal("openWay(" + rank + ") of " + graph, x.openWay(rank), due[rank]);
        }
        Due.equal("openWay(" + due.length + ") of " + graph, x.openWay(due.length), -1);
    }

    private static void openWaysInOrder() {
        inOrder("j01;j02;j12;s0;s1;e1;e2", Due.mask(0, 1), Due.mask(0, 1, 2), Due.mask(0, 2), Due.mask(1),
                Due.mask(1, 2));
        inOrder("j01;j02;j12;s0;s1;e1;e2;x01", Due.mask(0, 2), Due.mask(1), Due.mask(1, 2));
        inOrder("j08;j01;j18;s0;e8", Due.mask(0, 1, 8), Due.mask(0, 8));
        inOrder("s8;e8;s3;e3;s0;e0", Due.mask(0), Due.mask(3), Due.mask(8));
        inOrder("j03;j04;j35;j45;j05;s0;e5", Due.mask(0, 3, 5), Due.mask(0, 4, 5), Due.mask(0, 5));
    }

    private static void ifSplit() {
        CoverWays x = Due.loaded("c0=10;c1=3;c2=6;c8=9;j01;j02;j18;j28;s0;e8");
        Due.equal("ifSplit()", x.ifSplit(), 1);
        Due.equal("count(2)", x.count(2), 28);
        x.step();
        Due.equal("ifSplit() behind a step", x.ifSplit(), 1);
        Due.equal("count(10): nothing is counted", x.count(10), 0);
        x.split();
        Due.equal("ifSplit() behind split()", x.ifSplit(), 1);
        x.bar(0, 8);
        Due.equal("ifSplit() without open ways", x.ifSplit(), 28);
        Due.equal("ifSplit() of a new object", new CoverWays().ifSplit(), 0);
    }

    private static void mainPieceOf(String graph, int due) {
        Due.equal("mainPiece() of " + graph, Due.loaded(graph).mainPiece(), due);
    }

    private static void mainPiece() {
        mainPieceOf("s0;e1", -1);
        mainPieceOf("j01;s0;e1", 0);
        mainPieceOf("j01;s0;e1;x01", -1);
        // The ways: 02, 12.
        mainPieceOf("j02;j12;s0;s1;e2", 2);
        // The ways: 02, 023, 12, 123; with 0 and 3 barred 2 is still in three.
        mainPieceOf("j02;j12;j23;s0;s1;e2;e3", 2);
        mainPieceOf("s7;e7", 7);
        // Of several the lowest: 0 and 3 are in both.
        mainPieceOf("j01;j13;j02;j23;s0;e3", 0);
        // Barred ways do not count: 1 is in most ways, but in one open way alone.
        mainPieceOf("j01;s0;s1;e1;s5;e5;j56;e6;x01", 5);
        Due.equal("mainPiece() of a new object", new CoverWays().mainPiece(), -1);
    }

    private static void explained() {
        CoverWays x = new CoverWays();
        Due.share("explained() without cover", x.explained(), 1.0);
        x.cover(3, 7);
        Due.share("explained() of nothing", x.explained(), 0.0);
        x.cover(3, 1);
        Due.share("explained() of nothing of 1", x.explained(), 0.0);
        x.mark(3, 3);
        x.split();
        Due.share("explained() of all of 1", x.explained(), 1.0);
        CoverWays y = Due.loaded("c0=10;c1=3;c2=6;c8=9;j01;j02;j18;j28;s0;e8");
        y.step();
        Due.share("explained() behind a step", y.explained(), 18 / 28.0);
        y.step();
        Due.share("explained() behind two", y.explained(), 27 / 28.0);
        CoverWays z = Due.loaded("c0=999;s0;e0;c1=999;s1;e1");
        z.step();
        Due.share("explained() by half", z.explained(), 0.5);
        z.step();
        Due.share("explained() whole", z.explained(), 1.0);
    }
}
