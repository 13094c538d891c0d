/** Promise 25: digest. */
public final class DigestTest {
    public static void main(String[] args) {
        newObject();
        afterCalls();
        eachPartMatters();
        Due.close("DigestTest");
    }

    private static long mix(long hash, long value) {
        return 31 * hash + value;
    }

    /** The digest of a new object, from the values that the promises name. */
    private static void newObject() {
        long hash = 3617;
        for (int value : new int[] {0, 0, 0, 0, 0, 0, 0, 9, 9, 0, 0, 0}) {
            hash = mix(hash, value);
        }
        for (int piece = 0; piece < 9; piece++) {
            for (int what = 0; what < 17; what++) {
                hash = mix(hash, what != 2 ? 0 : piece == 0 ? 1 : piece == 8 ? 2 : 0);
            }
        }
        for (int value : new int[] {-1, -1, -1, -1, -1, -1, -1, 0, -1}) {
            hash = mix(hash, value);
        }
        hash = mix(hash, Double.doubleToLongBits(1.0));
        for (int value : new int[] {0, 0, 0}) {
            hash = mix(hash, value);
        }
        Due.equal("digest() of a new object", new CoverWays().digest(), hash);
    }

    /** The digest, from the answers of the other calls. */
    private static long digestOf(CoverWays x, boolean kept0, boolean kept1, String buffer) {
        long hash = 3617;
        for (int what = 0; what < 12; what++) {
            hash = mix(hash, x.count(what));
        }
        for (int piece = 0; piece < 9; piece++) {
            for (int what = 0; what < 8; what++) {
                hash = mix(hash, x.pieceOf(piece, what));
            }
            for (int to = 0; to < 9; to++) {
                hash = mix(hash, x.isJoined(piece, to));
            }
        }
        for (int rank = 0; rank < x.count(3); rank++) {
            for (int what = 0; what < 3; what++) {
                hash = mix(hash, x.noted(rank, what));
            }
        }
        hash = mix(hash, x.heaviest(0));
        hash = mix(hash, x.heaviest(1));
        for (int rank = 0; rank < 5; rank++) {
            hash = mix(hash, x.openWay(rank));
        }
        hash = mix(hash, x.ifSplit());
        hash = mix(hash, x.mainPiece());
        hash = mix(hash, Double.doubleToLongBits(x.explained()));
        hash = mix(hash, kept0 ? 1 : 0);
        hash = mix(hash, kept1 ? 1 : 0);
        hash = mix(hash, buffer.length());
        for (int i = 0; i < buffer.length(); i++) {
            hash = mix(hash, buffer.charAt(i));
        }
        return hash;
    }

    private static void afterCalls() {
        CoverWays x = Due.loaded("c0=10;c1=3;c2=6;c8=9;j01;j02;j18;j28;s0;e8");
        Due.equal("digest() behind load()", x.digest(), digestOf(x, false, false, ""));
        x.step();
        Due.equal("digest() behind step()", x.digest(), digestOf(x, false, false, ""));
        Due.type(x, "c0=~!");
        x.keep(1);
        Due.equal("digest() behind keep(1)", x.digest(), digestOf(x, false, true, "c0=~!"));
        x.split();
        x.keep(0);
        x.bar(0, 1);
        x.split();
        x.clearBuffer();
        Due.equal("digest() behind bar()", x.digest(), digestOf(x, true, true, ""));
        x.goBack(1);
        Due.type(x, "#".repeat(60));
        Due.equal("digest() with sixty signs", x.digest(), digestOf(x, true, true, "#".repeat(60)));
        Due.changesNothing(x, "digest()", () -> x.digest());
        shares();
    }

    /** The bits of many shares. */
    private static void shares() {
        for (String graph : new String[] {"c0=0;c1=0", "c0=1;c1=1", "c0=1;c1=3", "c0=1;c1=7", "c0=1;c1=999",
            "c0=7;c1=0", "c0=0;c1=7", "c0=1;c1=999;c2=999;c3=999;c4=999"}) {
            CoverWays z = Due.loaded("s0;e0;" + graph);
            z.step();
            z.keep(0);
            Due.equal("digest() of " + graph, z.digest(), digestOf(z, true, false, ""));
        }
        for (int cover = 1; cover < 1000; cover += 7) {
            CoverWays y = Due.loaded("s0;e0;j01;s1;e1;c0=" + cover + ";c1=" + (1000 - cover));
            y.step();
            y.keep(0);
            Due.equal("digest() of a share", y.digest(), digestOf(y, true, false, ""));
        }
    }

    private static void eachPartMatters() {
        CoverWays x = Due.loaded("c0=9;c8=4;j08;s0;e8");
        long before = x.digest();
        x.append('c');
        long longer = x.digest();
        Due.tell(longer != before, "the buffer is not in the digest");
        x.clearBuffer();
        x.append('d');
        Due.tell(x.digest() != longer, "the signs of the buffer are not in the digest");
        x.clearBuffer();
        x.keep(0);
        long first = x.digest();
        Due.tell(first != before, "the slot 0 is not in the digest");
        CoverWays y = Due.loaded("c0=9;c8=4;j08;s0;e8");
        y.keep(1);
        Due.tell(y.digest() != first, "the slots 0 and 1 are the same in the digest");
    }
}
