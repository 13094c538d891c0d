/** Promises 9 to 12 and the term of the input text, sentence by sentence. */
public final class TextEdgesTest {
    private static final Class<?> WRONG = IllegalArgumentException.class;
    private static final Class<?> FULL = IllegalStateException.class;

    public static void main(String[] args) {
        append();
        appendRefuses();
        clearBuffer();
        items();
        covers();
        pairs();
        marks();
        pieces();
        firstError();
        load();
        loadInPlace();
        loadRefuses();
        Due.close("TextEdgesTest");
    }

    private static CoverWays typed(String signs) {
        CoverWays x = new CoverWays();
        Due.type(x, signs);
        return x;
    }

    private static void append() {
        Due.test("Promise 9: the codes 33 and 126 are taken", () -> {
            CoverWays x = new CoverWays();
            Due.equal("append(33)", x.append(33), 1);
            Due.equal("append(126)", x.append(126), 2);
            Due.equal("clearBuffer()", x.clearBuffer(), 2);
        });
        Due.test("Promise 9: a code is kept as it is, each from 33 to 126", () -> {
            for (int code = 33; code <= 126; code++) {
                CoverWays x = typed("s0;e");
                Due.equal("append(" + code + ")", x.append(code), 5);
                Due.equal("firstError()", x.firstError(), code >= '0' && code <= '8' ? 5 : 4);
            }
        });
        Due.test("Promise 9: the new length is returned, from 1 to 60", () -> {
            CoverWays x = new CoverWays();
            for (int length = 1; length <= 60; length++) {
                Due.equal("append('c')", x.append('c'), length);
            }
            Due.equal("clearBuffer()", x.clearBuffer(), 60);
        });
        Due.test("Promise 9: the sixtieth sign is the last one of the text", () -> {
            CoverWays x = typed(Made.SIXTY);
            Due.equal("load()", x.load(), 3);
            Due.equal("pieceOf(6, 7)", x.pieceOf(6, 7), Due.mask(5, 7));
            Due.equal("pieceOf(7, 7)", x.pieceOf(7, 7), Due.mask(6));
        });
        Due.test("Promise 9: it is not undoable", () -> {
            CoverWays x = Made.stepped();
            x.append('c');
            Due.equal("count(11)", x.count(11), 2);
            Due.equal("undo()", x.undo(), 1);
            Due.equal("clearBuffer(): undo() leaves it", x.clearBuffer(), 1);
        });
    }

    private static void appendRefuses() {
        for (int code : new int[] {32, 127, 0, -1, 128, 65536 + 99, Integer.MIN_VALUE, Integer.MAX_VALUE}) {
            Due.refusedTest("Promise 9", WRONG, "append(" + code + ")", x -> x.append(code));
        }
        Due.test("Promise 9: a buffer with 60 characters takes no more", () -> {
            for (int code : new int[] {33, 'c', ';', 126}) {
                Due.refusedOn(Made::full, FULL, "append(" + code + ")", x -> x.append(code));
                Due.refusedOn(() -> typed(Made.SIXTY), FULL, "append(" + code + ")", x -> x.append(code));
            }
        });
        Due.test("Promise 9: with both, the first one is thrown", () -> {
            Due.refusedOn(Made::full, WRONG, "append(32) to 60", x -> x.append(32));
            Due.refusedOn(Made::full, WRONG, "append(127) to 60", x -> x.append(127));
        });
        Due.test("Promise 9: a buffer with 59 characters takes one more, and behind clearBuffer() 60", () -> {
            CoverWays x = typed(Made.SIXTY.substring(0, 59));
            Due.equal("append('7')", x.append('7'), 60);
            x.clearBuffer();
            Due.type(x, Made.SIXTY);
            Due.wrongState(x, "append('7')", () -> x.append('7'));
        });
    }

    private static void clearBuffer() {
        Due.test("Promise 10: the length that it had is returned (0, 1, 60)", () -> {
            Due.equal("clearBuffer() of none", new CoverWays().clearBuffer(), 0);
            Due.equal("clearBuffer() of one", typed("c").clearBuffer(), 1);
            Due.equal("clearBuffer() of sixty", typed(Made.SIXTY).clearBuffer(), 60);
        });
        Due.test("Promise 10: the buffer is empty behind it", () -> {
            CoverWays x = typed("c0=12");
            x.clearBuffer();
            Due.equal("clearBuffer() again", x.clearBuffer(), 0);
            Due.equal("firstError()", x.firstError(), 0);
            Due.wrongArgument(x, "load()", () -> x.load());
            Due.equal("append('s')", x.append('s'), 1);
            Due.equal("append('0')", x.append('0'), 2);
            Due.equal("firstError(): nothing is left of the old signs", x.firstError(), 2);
            Due.equal("load()", x.load(), 0);
            Due.equal("pieceOf(0, 0)", x.pieceOf(0, 0), 0);
        });
        Due.test("Promise 10: it is not undoable, and changes nothing else", () -> {
            CoverWays x = Made.full();
            x.clearBuffer();
            CoverWays twin = Made.full();
            twin.clearBuffer();
            Due.equal("count(11)", x.count(11), 6);
            Due.alike("clearBuffer()", x, twin);
            CoverWays y = typed("c0=12");
            y.clearBuffer();
            Due.equal("count(11)", y.count(11), 0);
            Due.wrongState(y, "undo()", () -> y.undo());
        });
    }

    /** The text is a graph: it has no error, and load() takes it. */
    private static void graph(String signs) {
        CoverWays x = typed(signs);
        Due.equal("firstError() of " + signs, x.firstError(), signs.length());
        x.load();
        Due.equal("clearBuffer() behind load() of " + signs, x.clearBuffer(), 0);
    }

    /** The text is the beginning of a graph, and none itself. */
    private static void beginning(String signs) {
        CoverWays x = typed(signs);
        Due.equal("firstError() of " + signs, x.firstError(), signs.length());
        Due.refusedOn(() -> typed(signs), WRONG, "load() of " + signs, y -> y.load());
    }

    private static void error(String signs, int due) {
        CoverWays x = typed(signs);
        Due.equal("firstError() of " + signs, x.firstError(), due);
        Due.refusedOn(() -> typed(signs), WRONG, "load() of " + signs, y -> y.load());
    }

    private static void items() {
        Due.test("Input text: a graph is one or more (one of each)", () -> {
            graph("c0=0");
            graph("j01");
            graph("s0");
            graph("e0");
            graph("x01");
        });
        Due.test("Input text: a graph is one or more (none is a beginning alone)", () -> beginning(""));
        Due.test("Input text: a graph is one or more (as many as sixty signs have)", () -> {
            graph("s0;".repeat(19) + "s0");
            graph(Made.SIXTY);
        });
        Due.test("Input text: \";\" is between them", () -> {
            graph("s0;e8");
            graph("c0=5;j01;s0;e1;x01;c0=6");
            error(";", 0);
            error(";s0", 0);
            error("s0;;e8", 3);
            error("s0e8", 2);
            error("s0,e8", 2);
            error("s0:e8", 2);
            error("c0=5j01", 4);
            error("j01s0", 3);
            error("x01x12", 3);
        });
        Due.test("Input text: a \";\" at the end is no error, but asks for one more", () -> {
            beginning("s0;");
            beginning("c0=5;");
            beginning("j01;x01;");
        });
        Due.test("Input text: each begins with c, j, s, e or x", () -> {
            for (char sign = 33; sign < 127; sign++) {
                if ("cjsex".indexOf(sign) < 0) {
                    error("" + sign, 0);
                    error("s0;" + sign, 3);
                } else {
                    beginning("" + sign);
                    beginning("s0;" + sign);
                }
            }
        });
    }

    private static void covers() {
        Due.test("Input text: \"c\", the digit of a piece, \"=\", and a cover", () -> {
            beginning("c");
            beginning("c8");
            beginning("c8=");
            graph("c8=7");
            error("c=7", 1);
            error("c8:7", 2);
            error("c87", 2);
            error("c8;", 2);
            error("c8==", 3);
            error("c8=;", 3);
            error("c8=a", 3);
        });
        Due.test("Input text: a cover is 0 to 999", () -> {
            graph("c4=0");
            graph("c4=9");
            graph("c4=10");
            graph("c4=99");
            graph("c4=100");
            graph("c4=999");
            error("c4=1000", 6);
            error("c4=9990", 6);
            error("c4=9999", 6);
            error("c4=-1", 3);
            error("c4=+1", 3);
            Due.equal("pieceOf(4, 0)", Due.loaded("c4=999").pieceOf(4, 0), 999);
            Due.equal("pieceOf(4, 0)", Due.loaded("c4=100").pieceOf(4, 0), 100);
        });
        Due.test("Input text: a cover has no leading zeros", () -> {
            error("c4=00", 4);
            error("c4=01", 4);
            error("c4=09", 4);
            error("c4=000", 4);
            graph("c4=0;c5=0");
        });
        Due.test("Input text: the digits of a cover are 0 to 9", () -> {
            for (char sign = 33; sign < 127; sign++) {
                boolean digit = sign >= '0' && sign <= '9';
                Due.equal("firstError() of c4=" + sign, typed("c4=" + sign).firstError(), digit ? 4 : 3);
                boolean goesOn = digit || sign == ';';
                Due.equal("firstError() of c4=1" + sign, typed("c4=1" + sign).firstError(), goesOn ? 5 : 4);
                Due.equal("firstError() of c4=98" + sign, typed("c4=98" + sign).firstError(), goesOn ? 6 : 5);
                Due.equal("firstError() of c4=0" + sign, typed("c4=0" + sign).firstError(), sign == ';' ? 5 : 4);
                Due.equal("firstError() of c4=987" + sign, typed("c4=987" + sign).firstError(), sign == ';' ? 7 : 6);
            }
        });
    }

    /** Both pairs of pieces, joins and bars, have the same form. */
    private static void pairs() {
        for (char kind : new char[] {'j', 'x'}) {
            Due.test("Input text: \"" + kind + "\" and the digits of two pieces", () -> {
                beginning("" + kind);
                beginning(kind + "0");
                graph(kind + "01");
                error(kind + ";", 1);
                error(kind + "0;", 2);
                error(kind + "012", 3);
                error(kind + "0=", 2);
            });
            Due.test("Input text: " + kind + ": the first piece is less than the second one", () -> {
                for (int first = 0; first < 9; first++) {
                    for (int second = 0; second < 9; second++) {
                        String signs = "" + kind + first + second;
                        if (first < second) {
                            graph(signs);
                        } else {
                            error(signs, first == 8 ? 1 : 2);
                        }
                    }
                }
            });
            Due.test("Input text: " + kind + ": and so the first piece is at most 7", () -> {
                beginning(kind + "7");
                graph(kind + "78");
                error(kind + "8", 1);
                error(kind + "9", 1);
                error("s0;" + kind + "8", 4);
            });
            Due.test("Input text: " + kind + ": the second piece is at most 8", () -> {
                graph(kind + "08");
                error(kind + "09", 2);
                error(kind + "79", 2);
            });
        }
    }

    private static void marks() {
        for (char kind : new char[] {'s', 'e'}) {
            Due.test("Input text: \"" + kind + "\" and the digit of a piece", () -> {
                beginning("" + kind);
                graph(kind + "0");
                graph(kind + "8");
                error(kind + "9", 1);
                error(kind + ";", 1);
                error(kind + "01", 2);
                error(kind + "0=", 2);
            });
        }
        Due.test("Input text: s is a start, e an end, both both", () -> {
            CoverWays x = Due.loaded("s3;e4;s5;e5;e6;s6");
            int[] marks = {0, 0, 0, 1, 2, 3, 3, 0, 0};
            for (int piece = 0; piece < 9; piece++) {
                Due.equal("pieceOf(" + piece + ", 2)", x.pieceOf(piece, 2), marks[piece]);
            }
        });
    }

    private static void pieces() {
        Due.test("Input text: a piece is a digit from 0 to 8", () -> {
            for (char sign = 33; sign < 127; sign++) {
                boolean piece = sign >= '0' && sign <= '8';
                for (String kind : new String[] {"c", "s", "e"}) {
                    Due.equal("firstError() of " + kind + sign, typed(kind + sign).firstError(), piece ? 2 : 1);
                }
                boolean first = piece && sign < '8';
                Due.equal("firstError() of j" + sign, typed("j" + sign).firstError(), first ? 2 : 1);
                Due.equal("firstError() of x" + sign, typed("x" + sign).firstError(), first ? 2 : 1);
                boolean second = piece && sign > '0';
                Due.equal("firstError() of j0" + sign, typed("j0" + sign).firstError(), second ? 3 : 2);
                Due.equal("firstError() of x0" + sign, typed("x0" + sign).firstError(), second ? 3 : 2);
            }
        });
    }

    private static void firstError() {
        Due.test("Promise 11: the index is from 0: the first sign", () -> error("Q", 0));
        Due.test("Promise 11: of several errors the first one", () -> {
            error("s0;s9;s9", 4);
            error("s0;;;", 3);
            error("QQ", 0);
            error("c0=00;j10", 4);
        });
        Due.test("Promise 11: the last sign of sixty", () -> {
            error(Made.SIXTY.substring(0, 59) + "!", 59);
            error(Made.SIXTY.substring(0, 59) + "6", 59);
        });
        Due.test("Promise 11: the length, if there is none (an empty buffer, one sign, sixty)", () -> {
            Due.equal("firstError() of nothing", new CoverWays().firstError(), 0);
            Due.equal("firstError() of c", typed("c").firstError(), 1);
            Due.equal("firstError() of sixty", typed(Made.SIXTY).firstError(), 60);
        });
        Due.test("Promise 11: a graph of any length: sixty signs may be the beginning of a longer one", () -> {
            String[] sixty = {"s0;".repeat(20), "s0;".repeat(19) + "c0=", "j01;".repeat(14) + "s0;c",
                "j01;".repeat(14) + "s0;x", "c0=0;".repeat(11) + "s0;j0"};
            for (String signs : sixty) {
                Due.equal("length of " + signs, signs.length(), 60);
                beginning(signs);
            }
        });
        Due.lookTest("Promise 11", "firstError()", x -> x.firstError());
    }

    private static void load() {
        Due.test("Promise 12: how many joins there are then is returned (0, some, as many as fit)", () -> {
            Due.equal("load() of s0", typed("s0").load(), 0);
            Due.equal("load() of j01;j12;x02", typed("j01;j12;x02").load(), 2);
            Due.equal("load() of 15", typed("j01;j02;j03;j04;j05;j06;j07;j08;j12;j13;j14;j15;j16;j17;j18").load(), 15);
        });
        Due.test("Promise 12: of several covers of one piece the last one counts", () -> {
            Due.equal("pieceOf(3, 0)", Due.loaded("c3=9;c3=5").pieceOf(3, 0), 5);
            Due.equal("pieceOf(3, 0)", Due.loaded("c3=5;c3=9;c3=7").pieceOf(3, 0), 7);
            Due.equal("pieceOf(3, 0)", Due.loaded("c3=999;c4=1;c3=0").pieceOf(3, 0), 0);
            Due.equal("pieceOf(3, 1)", Due.loaded("c3=999;c4=1;c3=12").pieceOf(3, 1), 12);
        });
        Due.test("Promise 12: what is told twice is there once", () -> {
            CoverWays x = typed("j01;j01;s0;s0;e1;e1;x01;x01");
            Due.equal("load()", x.load(), 1);
            Due.equal("isJoined(0, 1)", x.isJoined(0, 1), 1);
            Due.equal("pieceOf(0, 2)", x.pieceOf(0, 2), 1);
            Due.equal("pieceOf(1, 2)", x.pieceOf(1, 2), 2);
            Due.equal("pieceOf(0, 7)", x.pieceOf(0, 7), Due.mask(1));
            Due.equal("pieceOf(1, 7)", x.pieceOf(1, 7), Due.mask(0));
        });
        Due.test("Promise 12: it clears the buffer", () -> {
            CoverWays x = typed(Made.SIXTY);
            x.load();
            Due.equal("clearBuffer()", x.clearBuffer(), 0);
            Due.equal("append('s')", x.append('s'), 1);
            Due.equal("firstError()", x.firstError(), 1);
        });
        Due.test("Promise 12: undoable, and saves the state from before it; the buffer stays empty", () -> {
            CoverWays x = Made.stepped();
            Due.type(x, "c5=5;j45");
            x.load();
            Due.equal("count(11)", x.count(11), 3);
            Due.equal("undo()", x.undo(), 2);
            Due.equal("clearBuffer()", x.clearBuffer(), 0);
            Due.alike("load() and undo()", x, Made.stepped());
        });
    }

    private static void loadInPlace() {
        Due.test("Promise 12: covers that it does not tell are 0", () -> {
            CoverWays x = Made.loaded();
            Due.type(x, "c1=4");
            x.load();
            for (int piece = 0; piece < 9; piece++) {
                Due.equal("pieceOf(" + piece + ", 0)", x.pieceOf(piece, 0), piece == 1 ? 4 : 0);
                Due.equal("pieceOf(" + piece + ", 1)", x.pieceOf(piece, 1), piece == 1 ? 4 : 0);
            }
        });
        Due.test("Promise 12: there are no joins and bars but those that it tells", () -> {
            CoverWays x = Due.loaded("j01;j12;x01;x12");
            Due.type(x, "j12;x01");
            Due.equal("load()", x.load(), 1);
            Due.equal("isJoined(0, 1)", x.isJoined(0, 1), 0);
            Due.equal("isJoined(1, 2)", x.isJoined(1, 2), 1);
            Due.equal("pieceOf(1, 7)", x.pieceOf(1, 7), Due.mask(0));
            Due.equal("pieceOf(2, 7)", x.pieceOf(2, 7), 0);
        });
        Due.test("Promise 12: there are no starts and ends but those that it tells (none at all)", () -> {
            CoverWays x = typed("c0=1");
            x.load();
            for (int piece = 0; piece < 9; piece++) {
                Due.equal("pieceOf(" + piece + ", 2)", x.pieceOf(piece, 2), 0);
            }
            Due.type(x, "e0;s8");
            x.load();
            Due.equal("pieceOf(0, 2)", x.pieceOf(0, 2), 2);
            Due.equal("pieceOf(8, 2)", x.pieceOf(8, 2), 1);
        });
        Due.test("Promise 12: what another text told, loaded or not, is not of the graph", () -> {
            CoverWays x = typed("c3=9;s3;e4;j34;x34");
            x.load();
            Due.type(x, "c4=8;s4;e5;j45;x45;q");
            x.firstError();
            Due.wrongArgument(x, "load()", () -> x.load());
            x.clearBuffer();
            Due.type(x, "c5=7");
            Due.equal("load()", x.load(), 0);
            for (int piece = 0; piece < 9; piece++) {
                Due.equal("pieceOf(" + piece + ", 0)", x.pieceOf(piece, 0), piece == 5 ? 7 : 0);
                Due.equal("pieceOf(" + piece + ", 2)", x.pieceOf(piece, 2), 0);
                Due.equal("pieceOf(" + piece + ", 4)", x.pieceOf(piece, 4), 0);
                Due.equal("pieceOf(" + piece + ", 7)", x.pieceOf(piece, 7), 0);
            }
        });
        Due.test("Promise 12: the splitting begins anew", () -> {
            CoverWays x = Made.stepped();
            Due.type(x, "c0=4;s0;e0");
            x.load();
            Due.equal("count(3)", x.count(3), 0);
            Due.equal("count(2)", x.count(2), 4);
            Due.equal("count(9): steps so far stay", x.count(9), 1);
        });
    }

    private static void loadRefuses() {
        String[] none = {"", ";", "c", "c0", "c0=", "c0=5;", "j", "j0", "s", "e", "x", "x0", "c0=01", "c0=1000", "j10",
            "j8", "x11", "s9", "s0;e8;", "s0;e8;q", "S0", "s0;;e8"};
        for (String signs : none) {
            Due.test("Promise 12: load() of \"" + signs + "\" throws and changes nothing, the buffer neither", () -> {
                Due.refusedOn(() -> typed(signs), WRONG, "load()", x -> x.load());
                Due.refusedOn(() -> stepped(signs), WRONG, "load() behind a step", x -> x.load());
                CoverWays x = typed(signs);
                Due.wrongArgument(x, "load()", () -> x.load());
                Due.equal("clearBuffer()", x.clearBuffer(), signs.length());
            });
        }
        Due.test("Promise 12: load() of sixty signs with an error at the last one throws", () ->
                Due.refusedOn(Made::full, WRONG, "load()", x -> x.load()));
    }

    private static CoverWays stepped(String signs) {
        CoverWays x = Made.stepped();
        Due.type(x, signs);
        return x;
    }
}
