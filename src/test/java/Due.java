/** What the tests share: answers that are due, and short forms for what is done often. */
final class Due {
    /** One call of the face, whose answer is widened to a long. */
    interface Call {
        long answer();
    }

    private static int passed = 0;
    private static int failed = 0;

    private Due() {
    }

    static void equal(String call, long got, long want) {
        tell(got == want, call + " answered " + got + ", due is " + want);
    }

    static void share(String call, double got, double want) {
        tell(Double.doubleToLongBits(got) == Double.doubleToLongBits(want),
                call + " answered " + got + ", due is " + want);
    }

    /** The call throws just this exception, by a throw statement, and changes nothing. */
    static void refused(CoverWays x, Class<?> due, String name, Call call) {
        long before = x.digest();
        Class<?> thrown = null;
        try {
            call.answer();
        } catch (RuntimeException e) {
            thrown = e.getClass();
        }
        tell(thrown == due, name + " threw " + thrown + ", due is " + due);
        tell(x.digest() == before, name + " threw and changed something");
    }

    static void outOfBounds(CoverWays x, String name, Call call) {
        refused(x, IndexOutOfBoundsException.class, name, call);
    }

    static void wrongArgument(CoverWays x, String name, Call call) {
        refused(x, IllegalArgumentException.class, name, call);
    }

    static void wrongState(CoverWays x, String name, Call call) {
        refused(x, IllegalStateException.class, name, call);
    }

    /** The call leaves the digest, and so all that can be told, as it is. */
    static void changesNothing(CoverWays x, String name, Call call) {
        long before = x.digest();
        call.answer();
        tell(x.digest() == before, name + " changed something");
    }

    /** The call saves one state, which undo() restores. */
    static void undoable(CoverWays x, String name, Call call) {
        long before = x.digest();
        int saved = x.count(11);
        call.answer();
        equal(name + ": count(11)", x.count(11), saved + 1);
        equal(name + ": undo()", x.undo(), saved);
        equal(name + ": digest() behind undo()", x.digest(), before);
    }

    static CoverWays loaded(String graph) {
        CoverWays x = new CoverWays();
        type(x, graph);
        x.load();
        return x;
    }

    static void type(CoverWays x, String signs) {
        for (int i = 0; i < signs.length(); i++) {
            x.append(signs.charAt(i));
        }
    }

    /** Puts signs in place of the buffer. */
    static void retype(CoverWays x, String signs) {
        x.clearBuffer();
        type(x, signs);
    }

    static int mask(int... pieces) {
        int mask = 0;
        for (int piece : pieces) {
            mask |= 1 << piece;
        }
        return mask;
    }

    static void tell(boolean holds, String otherwise) {
        if (holds) {
            passed++;
            return;
        }
        failed++;
        if (failed <= 20) {
            System.out.println(otherwise);
        }
    }

    static void close(String test) {
        System.out.println(test + ": " + passed + " passed, " + failed + " failed");
        if (failed != 0) {
            System.exit(1);
        }
    }
}
