/** Objects for the tests of edges, each made in always the same way. */
final class Made {
    /** Four ways by two rows, two of which help; rests of 1 are left. */
    static final String GRAPH = "c0=10;c1=3;c2=6;c8=9;j01;j02;j18;j28;s0;e8";

    /** Sixty signs that tell a graph. */
    static final String SIXTY = "c0=10;c1=222;c8=333;j01;j18;j08;s0;s1;e8;x23;x34;x45;x56;x67";

    private Made() {
    }

    static CoverWays fresh() {
        return new CoverWays();
    }

    /** Nothing is saved or kept, and the buffer has some signs. */
    static CoverWays typed() {
        CoverWays x = new CoverWays();
        Due.type(x, "c0=5;j");
        return x;
    }

    static CoverWays loaded() {
        return Due.loaded(GRAPH);
    }

    /** One way is noted, of two that help; two states are saved, and the slot 1 has a snapshot. */
    static CoverWays stepped() {
        CoverWays x = loaded();
        x.keep(1);
        x.step();
        return x;
    }

    /** Six states are saved, both slots kept, two ways noted, a step refused; the buffer is full. */
    static CoverWays full() {
        CoverWays x = stepped();
        x.bar(3, 4);
        x.mark(4, 3);
        x.cover(4, 40);
        x.step();
        x.keep(0);
        x.join(0, 3);
        x.split();
        x.keep(1);
        x.begin();
        x.step();
        x.step();
        Due.type(x, SIXTY.substring(0, 59));
        x.append('!');
        return x;
    }
}
