import java.util.function.Supplier;

/** What the tests share: answers that are due, and short forms for what is done often. */
final class Due {
    /** One call of the face, whose answer is widened to a long. */
    interface Call {
        long answer();
    }

    /** One call of the face, made on each of several objects. */
    interface CallOn {
        long answer(CoverWays x);
    }

    private static int passed = 0;
    private static int failed = 0;
    private static String sentence = "";

    private Due() {
    }

    /** One test of its own, of the sentence that it names; what fails in it is told with that. */
    static void test(String name, Runnable body) {
        sentence = name + ": ";
        try {
            body.run();
        } catch (RuntimeException e) {
            tell(false, "the test was left by " + e);
        }
        sentence = "";
    }

    static void equal(String call, long got, long want) {
        tell(got == want, call + " answered " + got + ", due is " + want);
    }

    static void share(String call, double got, double want) {
        tell(Double.doubleToLongBits(got) == Double.doubleToLongBits(want),
                call + " answered " + got + ", due is " + want);
    }

    /** The call throws just this exception, by a throw statement, and changes nothing. */
    static void refused(CoverWays x, Class<?> due, String name, Call call) {
        long before = x.digest();
        Class<?> thrown = thrownBy(call);
        tell(thrown == due, name + " threw " + thrown + ", due is " + due);
        tell(x.digest() == before, name + " threw and changed something");
    }

    /**
     * The call throws just this exception, and changes nothing at all, neither what the digest has
     * nor the snapshots nor the saved states.
     */
    static void refusedOn(Supplier<CoverWays> made, Class<?> due, String name, CallOn call) {
        CoverWays x = made.get();
        Class<?> thrown = thrownBy(() -> call.answer(x));
        tell(thrown == due, name + " threw " + thrown + ", due is " + due);
        alike(name, x, made.get());
    }

    /** A test of a call that is refused in each state: of a new object, of a full one. */
    static void refusedTest(String promise, Class<?> due, String name, CallOn call) {
        test(promise + ": " + name + " throws " + due.getSimpleName() + " and changes nothing", () -> {
            refusedOn(Made::fresh, due, name + " on a new object", call);
            refusedOn(Made::typed, due, name + " with some signs", call);
            refusedOn(Made::stepped, due, name + " behind a step", call);
            refusedOn(Made::full, due, name + " on a full object", call);
        });
    }

    /** A test of a call that is undoable in each state, and saves the state once. */
    static void undoableTest(String promise, String name, CallOn call) {
        test(promise + ": " + name + " is undoable", () -> {
            undoableOn(Made::fresh, name + " on a new object", call);
            undoableOn(Made::typed, name + " with some signs", call);
            undoableOn(Made::stepped, name + " behind a step", call);
            undoableOn(Made::full, name + " on a full object", call);
        });
    }

    /** A test of a call that changes nothing in each state. */
    static void lookTest(String promise, String name, CallOn call) {
        test(promise + ": " + name + " changes nothing", () -> {
            lookOn(Made::fresh, name + " on a new object", call);
            lookOn(Made::typed, name + " with some signs", call);
            lookOn(Made::stepped, name + " behind a step", call);
            lookOn(Made::full, name + " on a full object", call);
        });
    }

    /** The call does not throw, and changes nothing at all. */
    static void lookOn(Supplier<CoverWays> made, String name, CallOn call) {
        CoverWays x = made.get();
        Class<?> thrown = thrownBy(() -> call.answer(x));
        tell(thrown == null, name + " threw " + thrown);
        alike(name, x, made.get());
    }

    /**
     * The call saves one state, and undo() restores all that a state has: behind it the object is
     * like one that was made in the same way, but for the oldest saved state.
     */
    static void undoableOn(Supplier<CoverWays> made, String name, CallOn call) {
        CoverWays x = made.get();
        int saved = Math.min(x.count(11) + 1, 6);
        call.answer(x);
        equal(name + ": count(11)", x.count(11), saved);
        equal(name + ": undo()", x.undo(), saved - 1);
        CoverWays twin = made.get();
        for (int what = 0; what < 11; what++) {
            equal(name + ": count(" + what + ") behind undo()", x.count(what), twin.count(what));
        }
        if (twin.count(11) == 6) {
            // The call has dropped the oldest state of x: that of the twin goes, too.
            twin.begin();
            twin.undo();
        }
        alike(name + " and undo()", x, twin);
    }

    /** Both objects answer the same: by their digests, and back through all that they have saved. */
    static void alike(String name, CoverWays x, CoverWays twin) {
        equal(name + ": digest()", x.digest(), twin.digest());
        equal(name + ": firstError()", x.firstError(), twin.firstError());
        int saved = twin.count(11);
        for (int i = 1; i <= saved && x.count(11) > 0; i++) {
            equal(name + ": undo()", x.undo(), twin.undo());
            equal(name + ": digest() of the saved state " + i, x.digest(), twin.digest());
        }
        for (int slot = 0; slot < 2; slot++) {
            int its = slot;
            Class<?> thrown = thrownBy(() -> twin.goBack(its));
            tell(thrownBy(() -> x.goBack(its)) == thrown, name + ": goBack(" + slot + ") threw something else");
            equal(name + ": digest() of the slot " + slot, x.digest(), twin.digest());
        }
    }

    private static Class<?> thrownBy(Call call) {
        try {
            call.answer();
        } catch (RuntimeException e) {
            return e.getClass();
        }
        return null;
    }

    static void outOfBounds(CoverWays x, String name, Call call) {
        refused(x, IndexOutOfBoundsException.class, name, call);
    }

    static void wrongArgument(CoverWays x, String name, Call call) {
        refused(x, IllegalArgumentException.class, name, call);
    }

    static void wrongState(CoverWays x, String name, Call call) {
        refused(x, IllegalStateException.class, name, call);
    }

    /** The call leaves the digest, and so all that can be told, as it is. */
    static void changesNothing(CoverWays x, String name, Call call) {
        long before = x.digest();
        call.answer();
        tell(x.digest() == before, name + " changed something");
    }

    /** The call saves one state, which undo() restores. */
    static void undoable(CoverWays x, String name, Call call) {
        long before = x.digest();
        int saved = x.count(11);
        call.answer();
        equal(name + ": count(11)", x.count(11), saved + 1);
        equal(name + ": undo()", x.undo(), saved);
        equal(name + ": digest() behind undo()", x.digest(), before);
    }

    static CoverWays loaded(String graph) {
        CoverWays x = new CoverWays();
        type(x, graph);
        x.load();
        return x;
    }

    static void type(CoverWays x, String signs) {
        for (int i = 0; i < signs.length(); i++) {
            x.append(signs.charAt(i));
        }
    }

    /** Puts signs in place of the buffer. */
    static void retype(CoverWays x, String signs) {
        x.clearBuffer();
        type(x, signs);
    }

    static int mask(int... pieces) {
        int mask = 0;
        for (int piece : pieces) {
            mask |= 1 << piece;
        }
        return mask;
    }

    static void tell(boolean holds, String otherwise) {
        if (holds) {
            passed++;
            return;
        }
        failed++;
        if (failed <= 20) {
            System.out.println(sentence + otherwise);
        }
    }

    static void close(String test) {
        System.out.println(test + ": " + passed + " passed, " + failed + " failed");
        if (failed != 0) {
            System.exit(1);
        }
    }
}
