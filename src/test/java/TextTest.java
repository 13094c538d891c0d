/** Promises 9 to 12: append, clearBuffer, firstError, load. */
public final class TextTest {
    public static void main(String[] args) {
        append();
        clearBuffer();
        firstErrorOfWholeTexts();
        firstErrorOfBeginnings();
        firstErrors();
        everySignEverywhere();
        load();
        loadTakesAllInPlace();
        loadRefuses();
        Due.close("TextTest");
    }

    private static void append() {
        CoverWays x = new CoverWays();
        Due.equal("append('!')", x.append(33), 1);
        Due.equal("append('~')", x.append(126), 2);
        Due.wrongArgument(x, "append(32)", () -> x.append(32));
        Due.wrongArgument(x, "append(127)", () -> x.append(127));
        Due.wrongArgument(x, "append(-1)", () -> x.append(-1));
        Due.wrongArgument(x, "append(65536 + 99)", () -> x.append(65536 + 99));
        Due.equal("count(11): append is not undoable", x.count(11), 0);
        for (int i = 2; i < 60; i++) {
            Due.equal("append('c')", x.append('c'), i + 1);
        }
        Due.wrongState(x, "append('c') to sixty", () -> x.append('c'));
        Due.wrongArgument(x, "append(32) to sixty: the first one counts", () -> x.append(32));
        Due.equal("clearBuffer()", x.clearBuffer(), 60);
        Due.equal("append('c') behind clearBuffer()", x.append('c'), 1);
    }

    private static void clearBuffer() {
        CoverWays x = new CoverWays();
        Due.type(x, "c0=12");
        Due.equal("clearBuffer()", x.clearBuffer(), 5);
        Due.equal("clearBuffer() again", x.clearBuffer(), 0);
        Due.equal("firstError()", x.firstError(), 0);
        Due.equal("count(11): clearBuffer is not undoable", x.count(11), 0);
        Due.wrongArgument(x, "load() of nothing", () -> x.load());
    }

    private static void errorAt(String signs, int due) {
        CoverWays x = new CoverWays();
        Due.type(x, signs);
        Due.changesNothing(x, "firstError()", () -> x.firstError());
        Due.equal("firstError() of " + signs, x.firstError(), due);
    }

    private static void firstErrorOfWholeTexts() {
        String[] whole = {"c0=0", "c8=999", "c4=10", "c4=100", "j01", "j78", "j08", "s0", "s8", "e0",
            "e8", "x01", "x78", "s0;e8", "c1=5;c1=6;j12;x12;s1;e2", "s0;s0;s0"};
        for (String signs : whole) {
            errorAt(signs, signs.length());
            CoverWays x = new CoverWays();
            Due.type(x, signs);
            x.load();
            Due.equal("length behind load() of " + signs, x.clearBuffer(), 0);
        }
    }

    private static void firstErrorOfBeginnings() {
        String[] beginnings = {"", "c", "c8", "c8=", "j", "j7", "s", "e", "x", "x7", "s0;", "c0=0;",
            "c0=12;j", "j01;x"};
        for (String signs : beginnings) {
            errorAt(signs, signs.length());
            CoverWays x = new CoverWays();
            Due.type(x, signs);
            Due.wrongArgument(x, "load() of " + signs, () -> x.load());
            Due.equal("length behind load() of " + signs, x.clearBuffer(), signs.length());
        }
    }

    private static void firstErrors() {
        errorAt(";", 0);
        errorAt("0", 0);
        errorAt("C0=1", 0);
        errorAt("a", 0);
        errorAt("c9", 1);
        errorAt("c=", 1);
        errorAt("c;", 1);
        errorAt("c00", 2);
        errorAt("c0;", 2);
        errorAt("c0=;", 3);
        errorAt("c0=-1", 3);
        errorAt("c0=00", 4);
        errorAt("c0=01", 4);
        errorAt("c0=0s", 4);
        errorAt("c0=1000", 6);
        errorAt("c0=9999", 6);
        errorAt("c0=12j", 5);
        errorAt("c0=12=", 5);
        errorAt("j8", 1);
        errorAt("j9", 1);
        errorAt("j11", 2);
        errorAt("j10", 2);
        errorAt("j78;j89", 5);
        errorAt("j79", 2);
        errorAt("j0;", 2);
        errorAt("j012", 3);
        errorAt("x8", 1);
        errorAt("x11", 2);
        errorAt("x54", 2);
        errorAt("x012", 3);
        errorAt("s9", 1);
        errorAt("s0e8", 2);
        errorAt("s00", 2);
        errorAt("e9", 1);
        errorAt("e0;;", 3);
        errorAt("s0;;e8", 3);
        errorAt("s0,e8", 2);
        errorAt("j01;c0=5;s7;x9", 13);
        errorAt("c0=1000;;;", 6);
    }

    /** Each sign behind each beginning is an error just where no text goes on with it. */
    private static void everySignEverywhere() {
        String[] beginnings = {"", "c", "c3", "c3=", "c3=0", "c3=1", "c3=12", "c3=123", "j", "j3", "j34",
            "s", "s3", "e", "e3", "x", "x3", "x34", "s3;"};
        String[] goingOn = {"cjsex", "012345678", "=", "0123456789", ";", ";0123456789", ";0123456789", ";",
            "01234567", "45678", ";", "012345678", ";", "012345678", ";", "01234567", "45678", ";", "cjsex"};
        CoverWays x = new CoverWays();
        for (int i = 0; i < beginnings.length; i++) {
            for (char sign = 33; sign < 127; sign++) {
                Due.retype(x, beginnings[i] + sign);
                int length = beginnings[i].length();
                int due = goingOn[i].indexOf(sign) < 0 ? length : length + 1;
                Due.equal("firstError() of " + beginnings[i] + sign, x.firstError(), due);
            }
        }
        // Sixty signs may be a beginning of a longer text.
        String sixty = "s0;".repeat(19) + "c0=";
        Due.retype(x, sixty);
        Due.equal("firstError() of sixty signs", x.firstError(), 60);
        Due.wrongArgument(x, "load() of sixty signs", () -> x.load());
        Due.retype(x, "s0;".repeat(18) + "c0=123");
        Due.equal("load() of sixty signs", x.load(), 0);
        Due.equal("pieceOf(0, 0)", x.pieceOf(0, 0), 123);
    }

    private static void load() {
        CoverWays x = new CoverWays();
        Due.type(x, "c0=12;c8=7;c0=30;j01;j18;j01;s0;s3;e3;e8;x13");
        Due.equal("load()", x.load(), 2);
        Due.equal("pieceOf(0, 0): the last cover counts", x.pieceOf(0, 0), 30);
        Due.equal("pieceOf(0, 1)", x.pieceOf(0, 1), 30);
        Due.equal("pieceOf(8, 0)", x.pieceOf(8, 0), 7);
        Due.equal("isJoined(0, 1): a join told twice", x.isJoined(0, 1), 1);
        Due.equal("isJoined(1, 8)", x.isJoined(1, 8), 1);
        Due.equal("pieceOf(0, 2)", x.pieceOf(0, 2), 1);
        Due.equal("pieceOf(3, 2)", x.pieceOf(3, 2), 3);
        Due.equal("pieceOf(8, 2)", x.pieceOf(8, 2), 2);
        Due.equal("pieceOf(1, 7)", x.pieceOf(1, 7), 1 << 3);
        Due.equal("pieceOf(3, 7)", x.pieceOf(3, 7), 1 << 1);
        Due.equal("firstError() behind load()", x.firstError(), 0);
        Due.equal("clearBuffer() behind load()", x.clearBuffer(), 0);
        Due.equal("count(11)", x.count(11), 1);
        Due.type(x, "x02;x02;c5=0");
        Due.equal("load()", x.load(), 0);
        Due.equal("pieceOf(2, 7): a bar told twice", x.pieceOf(2, 7), 1);
        Due.equal("pieceOf(0, 7)", x.pieceOf(0, 7), 1 << 2);
        Due.equal("undo()", x.undo(), 1);
        Due.equal("count(0) behind undo()", x.count(0), 2);
        Due.equal("clearBuffer(): undo() leaves the buffer", x.clearBuffer(), 0);
        CoverWays y = Due.loaded("s0;s0;e4;e4;x02;x12;x23");
        Due.equal("pieceOf(0, 2): a start told twice", y.pieceOf(0, 2), 1);
        Due.equal("pieceOf(4, 2): an end told twice", y.pieceOf(4, 2), 2);
        Due.equal("pieceOf(2, 7): bars from both sides", y.pieceOf(2, 7), 0b1011);
    }

    private static void loadTakesAllInPlace() {
        CoverWays x = Due.loaded("c0=9;c8=4;j08;s0;e8;x13");
        Due.equal("split()", x.split(), 1);
        Due.type(x, "c4=6");
        Due.equal("load()", x.load(), 0);
        Due.equal("count(0)", x.count(0), 0);
        Due.equal("count(1)", x.count(1), 6);
        Due.equal("count(2)", x.count(2), 6);
        Due.equal("count(3)", x.count(3), 0);
        Due.equal("count(9): steps so far stay", x.count(9), 1);
        Due.equal("count(10): refused so far stay", x.count(10), 1);
        for (int piece = 0; piece < 9; piece++) {
            Due.equal("pieceOf(" + piece + ", 2)", x.pieceOf(piece, 2), 0);
            Due.equal("pieceOf(" + piece + ", 7)", x.pieceOf(piece, 7), 0);
        }
        // The graph as it is begins the splitting anew, too.
        CoverWays y = Due.loaded("c0=9;c8=4;j08;s0;e8");
        y.step();
        Due.type(y, "c0=9;c8=4;j08;s0;e8");
        Due.equal("load() of the same graph", y.load(), 1);
        Due.equal("count(3)", y.count(3), 0);
        Due.equal("count(2)", y.count(2), 13);
    }

    private static void loadRefuses() {
        CoverWays x = Due.loaded("c0=9;c8=4;j08;s0;e8");
        x.step();
        String[] wrong = {"", ";", "c0=5;", "c0=01", "s0;e8;q", "j10", "c0", "c0=", "s0;;e8", "c1=1000"};
        for (String signs : wrong) {
            Due.retype(x, signs);
            Due.wrongArgument(x, "load() of " + signs, () -> x.load());
            Due.equal("count(3)", x.count(3), 1);
        }
    }
}
