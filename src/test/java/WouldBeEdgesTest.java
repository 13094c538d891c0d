/** Promises 20 to 25, sentence by sentence: what would be, and digest. */
public final class WouldBeEdgesTest {
    private static final int MIN = Integer.MIN_VALUE;
    private static final int MAX = Integer.MAX_VALUE;
    private static final Class<?> WRONG = IllegalArgumentException.class;

    public static void main(String[] args) {
        heaviest();
        openWay();
        ifSplit();
        mainPiece();
        explained();
        digestOfANewObject();
        digestGoesRound();
        digestOfAll();
        digestOfLists();
        Due.close("WouldBeEdgesTest");
    }

    private static void heaviest(String graph, int weight, int mask) {
        CoverWays x = Due.loaded(graph);
        Due.equal("heaviest(0) of " + graph, x.heaviest(0), weight);
        Due.equal("heaviest(1) of " + graph, x.heaviest(1), mask);
    }

    private static void heaviest() {
        Due.test("Promise 20: 0: its weight (0, 1, 999), 1: its pieces, as a mask", () -> {
            heaviest("s0;e0", 0, 1);
            heaviest("s8;e8;c8=1", 1, 256);
            heaviest("s0;e8;j08;c0=999;c8=999", 999, 257);
        });
        Due.test("Promise 20: an open way with the weight 0 is one", () -> {
            heaviest("j01;s0;e1;c0=5", 0, 3);
            CoverWays x = Made.loaded();
            x.split();
            Due.equal("heaviest(0)", x.heaviest(0), 0);
            Due.equal("heaviest(1)", x.heaviest(1), Due.mask(0, 1, 8));
        });
        Due.test("Promise 20: NONE if there is no open way (no way; all barred)", () -> {
            heaviest("c0=5;s0;e1", -1, -1);
            heaviest("j01;s0;e1;c0=5;c1=5;x01", -1, -1);
            Due.equal("heaviest(0) of a new object", new CoverWays().heaviest(0), -1);
            Due.equal("heaviest(1) of a new object", new CoverWays().heaviest(1), -1);
        });
        Due.test("Promise 20: the heaviest way now, by the rests", () -> {
            CoverWays x = Made.stepped();
            Due.equal("heaviest(0)", x.heaviest(0), 3);
            Due.equal("heaviest(1)", x.heaviest(1), Due.mask(0, 1, 8));
        });
        Due.lookTest("Promise 20", "heaviest(0)", x -> x.heaviest(0));
        Due.lookTest("Promise 20", "heaviest(1)", x -> x.heaviest(1));
        for (int what : new int[] {-1, 2, MIN, MAX}) {
            Due.refusedTest("Promise 20", WRONG, "heaviest(" + what + ")", x -> x.heaviest(what));
        }
    }

    private static void openWay() {
        Due.test("Promise 21: the first rank and the last one; NONE if there are not so many", () -> {
            CoverWays x = Made.loaded();
            Due.equal("openWay(0)", x.openWay(0), Due.mask(0, 1, 8));
            Due.equal("openWay(1)", x.openWay(1), Due.mask(0, 2, 8));
            Due.equal("openWay(2)", x.openWay(2), -1);
            Due.equal("openWay(MAX)", x.openWay(MAX), -1);
        });
        Due.test("Promise 21: NONE if there is none at all (no way; all barred)", () -> {
            Due.equal("openWay(0) of a new object", new CoverWays().openWay(0), -1);
            Due.equal("openWay(0)", Due.loaded("j01;s0;e1;x01").openWay(0), -1);
        });
        Due.test("Promise 21: barred ways have no rank", () -> {
            CoverWays x = Due.loaded("j01;j02;j18;j28;s0;e8;x01");
            Due.equal("openWay(0)", x.openWay(0), Due.mask(0, 2, 8));
            Due.equal("openWay(1)", x.openWay(1), -1);
        });
        Due.test("Promise 21: the most open ways, 511: in order, and none behind them", () -> {
            CoverWays x = new CoverWays();
            for (int from = 0; from < 9; from++) {
                x.mark(from, 3);
                for (int to = from + 1; to < 9; to++) {
                    x.join(from, to);
                }
            }
            int[] due = {0b1, 0b11, 0b111, 0b1111, 0b11111, 0b111111, 0b1111111, 0b11111111, 0b111111111, 0b101111111};
            for (int rank = 0; rank < due.length; rank++) {
                Due.equal("openWay(" + rank + ")", x.openWay(rank), due[rank]);
            }
            Due.equal("openWay(255): the last one from 0", x.openWay(255), Due.mask(0, 8));
            Due.equal("openWay(256): the first one from 1", x.openWay(256), Due.mask(1));
            Due.equal("openWay(510): the last one", x.openWay(510), Due.mask(8));
            Due.equal("openWay(511)", x.openWay(511), -1);
            Due.equal("openWay(512)", x.openWay(512), -1);
        });
        Due.lookTest("Promise 21", "openWay(0)", x -> x.openWay(0));
        Due.lookTest("Promise 21", "openWay(MAX)", x -> x.openWay(MAX));
        Due.refusedTest("Promise 21", WRONG, "openWay(-1)", x -> x.openWay(-1));
        Due.refusedTest("Promise 21", WRONG, "openWay(MIN)", x -> x.openWay(MIN));
    }

    private static void ifSplit() {
        Due.test("Promise 22: all rests together, as they would be behind split()", () -> {
            CoverWays x = Made.loaded();
            Due.equal("ifSplit()", x.ifSplit(), 1);
            x.step();
            Due.equal("ifSplit() behind a step", x.ifSplit(), 1);
            x.split();
            Due.equal("count(2)", x.count(2), 1);
            Due.equal("ifSplit() behind split()", x.ifSplit(), 1);
        });
        Due.test("Promise 22: without open ways, or with a weight of 0, the rests as they are", () -> {
            Due.equal("ifSplit()", Due.loaded("c0=5;c1=6;s0;e1").ifSplit(), 11);
            Due.equal("ifSplit()", Due.loaded("c0=5;c1=6;j01;s0;e1;x01").ifSplit(), 11);
            Due.equal("ifSplit()", Due.loaded("c0=5;j01;s0;e1").ifSplit(), 5);
        });
        Due.test("Promise 22: 0 if all is explained, and without cover", () -> {
            Due.equal("ifSplit()", Due.loaded("c0=5;c8=5;j08;s0;e8").ifSplit(), 0);
            Due.equal("ifSplit() of a new object", new CoverWays().ifSplit(), 0);
        });
        Due.test("Promise 22: nine steps, the most there are", () -> {
            CoverWays x = new CoverWays();
            for (int piece = 0; piece < 9; piece++) {
                x.mark(piece, 3);
                x.cover(piece, 999);
            }
            Due.equal("ifSplit()", x.ifSplit(), 0);
            Due.equal("count(2)", x.count(2), 8991);
        });
        Due.lookTest("Promise 22", "ifSplit()", x -> x.ifSplit());
    }

    private static void mainPieceOf(String graph, int due) {
        Due.equal("mainPiece() of " + graph, Due.loaded(graph).mainPiece(), due);
    }

    private static void mainPiece() {
        Due.test("Promise 23: the piece that is in the most open ways", () -> {
            mainPieceOf("j02;j12;s0;s1;e2", 2);
            mainPieceOf("s8;e8", 8);
            mainPieceOf("s0;e0", 0);
            mainPieceOf("j01;j08;j28;j38;s0;s2;s3;e1;e8", 8);
        });
        Due.test("Promise 23: of several the lowest", () -> {
            mainPieceOf("s8;e8;s3;e3", 3);
            mainPieceOf("j01;j13;j02;j23;s0;e3", 0);
            mainPieceOf("j12;j23;s1;e3", 1);
        });
        Due.test("Promise 23: barred ways do not count", () -> {
            mainPieceOf("j01;j02;s0;e1;e2;s8;e8;x01;x02", 8);
            mainPieceOf("j08;j18;j28;s0;s1;s2;e8;x08;x18;s3;e3", 2);
        });
        Due.test("Promise 23: NONE if there are no open ways (no way; all barred)", () -> {
            Due.equal("mainPiece() of a new object", new CoverWays().mainPiece(), -1);
            mainPieceOf("j01;s0;e1;x01", -1);
        });
        Due.lookTest("Promise 23", "mainPiece()", x -> x.mainPiece());
    }

    private static void explained() {
        Due.test("Promise 24: 1.0 without cover", () -> {
            Due.share("explained() of a new object", new CoverWays().explained(), 1.0);
            CoverWays x = Due.loaded("c0=5;s0;e0");
            x.cover(0, 0);
            Due.share("explained() with the cover taken away", x.explained(), 1.0);
        });
        Due.test("Promise 24: 0.0 where nothing is explained, 1.0 where all is", () -> {
            CoverWays x = Due.loaded("c0=5;s0;e0");
            Due.share("explained()", x.explained(), 0.0);
            x.step();
            Due.share("explained()", x.explained(), 1.0);
            x.begin();
            Due.share("explained()", x.explained(), 0.0);
        });
        Due.test("Promise 24: the least cover there is, 1, is not without cover", () -> {
            CoverWays x = Due.loaded("c8=1;s8");
            Due.share("explained()", x.explained(), 0.0);
            x.mark(8, 3);
            x.step();
            Due.share("explained()", x.explained(), 1.0);
        });
        // Divisions of integers are rounded down; the share is the only division, and is a double.
        Due.test("Promise 24: a double, not rounded (the least share that there is, too)", () -> {
            CoverWays x = Made.stepped();
            Due.share("explained()", x.explained(), 18.0 / 28.0);
            CoverWays y = new CoverWays();
            for (int piece = 0; piece < 8; piece++) {
                y.cover(piece, 999);
            }
            y.cover(8, 1);
            y.mark(8, 3);
            Due.equal("split()", y.split(), 1);
            Due.share("explained()", y.explained(), 1.0 / 7993.0);
        });
        Due.lookTest("Promise 24", "explained()", x -> (long) (1000 * x.explained()));
    }

    private static long mix(long hash, long... values) {
        long mixed = hash;
        for (long value : values) {
            mixed = 31 * mixed + value;
        }
        return mixed;
    }

    /** The pieces of an empty graph, whose marks are these, with joins told by their rows. */
    private static long mixPieces(long hash, long[][] properties, long[][] joins) {
        long mixed = hash;
        for (int piece = 0; piece < 9; piece++) {
            mixed = mix(mix(mixed, properties[piece]), joins[piece]);
        }
        return mixed;
    }

    private static void digestOfANewObject() {
        Due.test("Promise 25: a new object: nothing noted, no slot, an empty buffer", () -> {
            long hash = mix(3617, 0, 0, 0, 0, 0, 0, 0, 9, 9, 0, 0, 0);
            long[][] properties = new long[9][8];
            properties[0][2] = 1;
            properties[8][2] = 2;
            hash = mixPieces(hash, properties, new long[9][9]);
            hash = mix(hash, -1, -1, -1, -1, -1, -1, -1, 0, -1);
            hash = mix(hash, Double.doubleToLongBits(1.0), 0, 0, 0);
            Due.equal("digest()", new CoverWays().digest(), hash);
        });
        Due.lookTest("Promise 25", "digest()", x -> x.digest());
    }

    private static void digestGoesRound() {
        // 31 times itself goes beyond a long behind some dozen of the two hundred values.
        Due.test("Promise 25: long arithmetic with overflow: it goes below 0 and above", () -> {
            CoverWays x = new CoverWays();
            boolean below = false;
            boolean above = false;
            for (int i = 0; i < 60; i++) {
                x.append('c');
                below |= x.digest() < 0;
                above |= x.digest() > Integer.MAX_VALUE;
            }
            Due.tell(below && above, "sixty digests are all of one sign, or small");
        });
    }

    private static void digestOfAll() {
        Due.test("Promise 25: each value in its order (a way noted, a refused one, both slots, a buffer)", () -> {
            CoverWays x = new CoverWays();
            x.cover(0, 10);
            x.cover(4, 4);
            x.cover(8, 7);
            x.join(0, 4);
            x.join(4, 8);
            x.join(0, 8);
            x.bar(0, 4);
            x.mark(4, 3);
            x.step();
            x.step();
            x.step();
            x.keep(1);
            Due.type(x, "!~c");
            // Open: 0 8, 4, 4 8; barred: 0 4, 0 4 8. Taken: 0 8 by 7, and 4 by 4; then refused.
            long hash = mix(3617, 3, 21, 3, 2, 5, 5, 3, 7, 7, 2, 1, 6);
            long[][] properties = new long[9][8];
            properties[0] = new long[] {10, 3, 1, 0, 2, 2, 3, 16};
            properties[4] = new long[] {4, 0, 3, 1, 1, 1, 4, 1};
            properties[8] = new long[] {7, 0, 2, 2, 0, 0, 3, 0};
            long[][] joins = new long[9][9];
            joins[0][4] = 1;
            joins[0][8] = 1;
            joins[4][8] = 1;
            hash = mixPieces(hash, properties, joins);
            hash = mix(hash, 7, 257, 2, 4, 16, 1);
            hash = mix(hash, 0, 257, 257, 16, 272, -1, -1, 3, 4);
            hash = mix(hash, Double.doubleToLongBits(18.0 / 21.0), 0, 1, 3, '!', '~', 'c');
            Due.equal("digest()", x.digest(), hash);
        });
    }

    private static void differ(String what, CoverWays x, CoverWays other) {
        Due.test("Promise 25: the hash has " + what, () ->
                Due.tell(x.digest() != other.digest(), "both digests are " + x.digest()));
    }

    private static CoverWays typed(String signs) {
        CoverWays x = new CoverWays();
        Due.type(x, signs);
        return x;
    }

    private static CoverWays kept(int slot) {
        CoverWays x = new CoverWays();
        x.keep(slot);
        return x;
    }

    private static void digestOfLists() {
        differ("the slot 0", kept(0), new CoverWays());
        differ("the slot 1", kept(1), new CoverWays());
        differ("which slot it is", kept(0), kept(1));
        differ("the length of the buffer", typed("c"), new CoverWays());
        differ("each code of the buffer", typed("cd"), typed("ce"));
        differ("the order of the codes", typed("cd"), typed("dc"));
        differ("the sixtieth code", typed("c".repeat(59) + "d"), typed("c".repeat(60)));
        Due.test("Promise 25: openWay of the ranks 0 to 4, and not of 5", () -> {
            // Six open ways, and the properties of all of them, as the other calls tell them.
            CoverWays x = Due.loaded("j01;j12;s0;s1;s2;e0;e1;e2");
            Due.equal("openWay(5)", x.openWay(5), Due.mask(2));
            Due.equal("digest()", x.digest(), hashOf(x));
        });
        Due.test("Promise 25: the bits of explained, of the shares 0.0, 1.0 and between", () -> {
            CoverWays x = Due.loaded("s0;e0;s1;e1;c0=1;c1=2");
            for (int i = 0; i < 3; i++) {
                Due.equal("digest()", x.digest(), hashOf(x));
                x.step();
            }
            Due.share("explained()", x.explained(), 1.0);
            for (int cover = 1; cover <= 999; cover += 2) {
                CoverWays y = Due.loaded("s0;e0;c0=" + cover + ";c1=" + (1000 - cover));
                y.step();
                Due.equal("digest() of " + cover + " of 1000", y.digest(), hashOf(y));
            }
        });
        Due.test("Promise 25: the bits of explained, of the least share that there is", () -> {
            CoverWays x = new CoverWays();
            for (int piece = 0; piece < 8; piece++) {
                x.cover(piece, 999);
            }
            x.cover(8, 1);
            x.mark(8, 3);
            x.step();
            Due.equal("digest()", x.digest(), hashOf(x));
        });
        Due.test("Promise 25: nine ways noted", () -> {
            CoverWays x = new CoverWays();
            for (int piece = 0; piece < 9; piece++) {
                x.mark(piece, 3);
                x.cover(piece, 500 - piece);
            }
            x.split();
            Due.equal("digest()", x.digest(), hashOf(x));
        });
    }

    /** The digest by the answers of the other calls, without slots and buffer. */
    private static long hashOf(CoverWays x) {
        long hash = 3617;
        for (int what = 0; what <= 11; what++) {
            hash = mix(hash, x.count(what));
        }
        for (int piece = 0; piece < 9; piece++) {
            for (int what = 0; what < 8; what++) {
                hash = mix(hash, x.pieceOf(piece, what));
            }
            for (int to = 0; to < 9; to++) {
                hash = mix(hash, x.isJoined(piece, to));
            }
        }
        for (int rank = 0; x.noted(rank, 0) != -1; rank++) {
            hash = mix(hash, x.noted(rank, 0), x.noted(rank, 1), x.noted(rank, 2));
        }
        hash = mix(hash, x.heaviest(0), x.heaviest(1));
        for (int rank = 0; rank <= 4; rank++) {
            hash = mix(hash, x.openWay(rank));
        }
        hash = mix(hash, x.ifSplit(), x.mainPiece(), Double.doubleToLongBits(x.explained()));
        return mix(hash, 0, 0, 0);
    }
}
