import java.util.Random;

/** Runs of calls, always the same ones, whose answers are those of the model. */
public final class RandomRunsTest {
    private static final int RUNS = 60;
    private static final int CALLS = 512;
    private static final Class<?>[] MAY_BE_THROWN = {
        IndexOutOfBoundsException.class, IllegalArgumentException.class, IllegalStateException.class};

    private final Random random;
    private final CoverWays x = new CoverWays();
    private final Model model = new Model();
    private String call;

    private RandomRunsTest(int run) {
        random = new Random(run);
    }

    public static void main(String[] args) {
        for (int run = 0; run < RUNS; run++) {
            RandomRunsTest test = new RandomRunsTest(run);
            int first = test.fill(run % 4);
            for (int i = first; i < CALLS; i++) {
                test.callBoth(run);
            }
        }
        Due.close("RandomRunsTest");
    }

    /** Makes a graph with more or less joins, covers and marks; tells how many calls that took. */
    private int fill(int density) {
        int calls = 0;
        for (int from = 0; from < 9; from++) {
            int cover = random.nextInt(1000);
            x.cover(from, cover);
            model.cover(from, cover);
            int what = random.nextInt(2 + density % 3);
            x.mark(from, what);
            model.mark(from, what);
            calls += 2;
            for (int to = from + 1; to < 9; to++) {
                if (random.nextInt(4) < density) {
                    x.join(from, to);
                    model.join(from, to);
                    calls++;
                }
            }
        }
        return calls;
    }

    private void callBoth(int run) {
        // Less often what changes the graph, so that more is split in the same one.
        int which = random.nextInt(31);
        which = which < 7 && random.nextInt(3) > 0 ? 7 + which % 2 : which;
        int one = number();
        int other = number();
        String got = answer(which, one, other, false);
        String due = answer(which, one, other, true);
        Due.tell(got.equals(due), "run " + run + ": " + call + " answered " + got + ", the model " + due);
    }

    /** Mostly a piece, now and then something else. */
    private int number() {
        switch (random.nextInt(12)) {
            case 0:
                return random.nextInt(14) - 2;
            case 1:
                return random.nextInt(2) == 0 ? Integer.MIN_VALUE : Integer.MAX_VALUE;
            case 2:
                return random.nextInt(600) - 20;
            default:
                return random.nextInt(9);
        }
    }

    private String answer(int which, int one, int other, boolean ofModel) {
        try {
            return which < 15 ? change(which, one, other, ofModel) : look(which, one, other, ofModel);
        } catch (RuntimeException e) {
            for (Class<?> may : MAY_BE_THROWN) {
                if (may == e.getClass()) {
                    return may.getName();
                }
            }
            return "the machine threw " + e;
        }
    }

    private String change(int which, int one, int other, boolean ofModel) {
        switch (which) {
            case 0:
            case 1:
                int cover = other % 9 == other ? other * 111 : other;
                call = "cover(" + one + ", " + cover + ")";
                return "" + (ofModel ? model.cover(one, cover) : x.cover(one, cover));
            case 2:
            case 3:
            case 4:
                call = "join(" + one + ", " + other + ")";
                return "" + (ofModel ? model.join(one, other) : x.join(one, other));
            case 5:
                int mark = other == 8 ? 3 : other;
                call = "mark(" + one + ", " + mark + ")";
                return "" + (ofModel ? model.mark(one, mark) : x.mark(one, mark));
            case 6:
                call = "bar(" + one + ", " + other + ")";
                return "" + (ofModel ? model.bar(one, other) : x.bar(one, other));
            case 7:
                call = "step()";
                return "" + (ofModel ? model.step() : x.step());
            case 8:
                call = "split()";
                return "" + (ofModel ? model.split() : x.split());
            case 9:
                call = "begin()";
                return "" + (ofModel ? model.begin() : x.begin());
            case 10:
            case 11:
                return typeAndLoad(one, other, ofModel);
            case 12:
                call = "keep(" + one / 4 + ")";
                return "" + (ofModel ? model.keep(one / 4) : x.keep(one / 4));
            case 13:
                call = "goBack(" + one / 4 + ")";
                return "" + (ofModel ? model.goBack(one / 4) : x.goBack(one / 4));
            default:
                call = "undo()";
                return "" + (ofModel ? model.undo() : x.undo());
        }
    }

    /** A text that is a graph, for the most part, from one seed for both. */
    private String typeAndLoad(int one, int other, boolean ofModel) {
        Random signs = new Random(31L * one + other);
        StringBuilder text = new StringBuilder();
        int items = 1 + signs.nextInt(13);
        for (int i = 0; i < items; i++) {
            char kind = "cjsexjjj".charAt(signs.nextInt(8));
            text.append(i == 0 ? "" : ";").append(kind).append(signs.nextInt(i == 5 ? 9 : 5));
            if (kind == 'c') {
                text.append('=').append(signs.nextInt(signs.nextInt(40) == 0 ? 2000 : 200));
            } else if (kind == 'j' || kind == 'x') {
                text.append(5 + signs.nextInt(4));
            }
        }
        call = "load() of " + text;
        StringBuilder answer = new StringBuilder();
        answer.append(ofModel ? model.clearBuffer() : x.clearBuffer());
        for (int i = 0; i < text.length() && i < 60; i++) {
            answer.append(' ').append(ofModel ? model.append(text.charAt(i)) : x.append(text.charAt(i)));
        }
        answer.append(' ').append(ofModel ? model.firstError() : x.firstError());
        answer.append(' ').append(ofModel ? model.load() : x.load());
        return answer.toString();
    }

    private String look(int which, int one, int other, boolean ofModel) {
        switch (which) {
            case 15:
            case 16:
                call = "pieceOf(" + one + ", " + other + ")";
                return "" + (ofModel ? model.pieceOf(one, other) : x.pieceOf(one, other));
            case 17:
                call = "isJoined(" + one + ", " + other + ")";
                return "" + (ofModel ? model.isJoined(one, other) : x.isJoined(one, other));
            case 18:
                int number = other == 8 ? 0 : other % 3;
                call = "noted(" + one + ", " + number + ")";
                return "" + (ofModel ? model.noted(one, number) : x.noted(one, number));
            case 19:
            case 20:
                call = "count(" + (one + 3) + ")";
                return "" + (ofModel ? model.count(one + 3) : x.count(one + 3));
            case 21:
                call = "count(" + one + ")";
                return "" + (ofModel ? model.count(one) : x.count(one));
            case 22:
                call = "heaviest(" + one / 4 + ")";
                return "" + (ofModel ? model.heaviest(one / 4) : x.heaviest(one / 4));
            case 23:
                call = "openWay(" + one + ")";
                return "" + (ofModel ? model.openWay(one) : x.openWay(one));
            case 24:
                call = "ifSplit()";
                return "" + (ofModel ? model.ifSplit() : x.ifSplit());
            case 25:
                call = "mainPiece()";
                return "" + (ofModel ? model.mainPiece() : x.mainPiece());
            case 26:
                call = "explained()";
                return "" + (ofModel ? model.explained() : x.explained());
            case 27:
                call = "append(" + one * 13 + ")";
                return "" + (ofModel ? model.append(one * 13) : x.append(one * 13));
            case 28:
                call = "firstError()";
                return "" + (ofModel ? model.firstError() : x.firstError());
            case 29:
                call = "clearBuffer()";
                return "" + (ofModel ? model.clearBuffer() : x.clearBuffer());
            default:
                return allOf(ofModel);
        }
    }

    /** All that can be told at once. */
    private String allOf(boolean ofModel) {
        call = "all looks";
        StringBuilder all = new StringBuilder();
        for (int what = 0; what < 12; what++) {
            all.append(ofModel ? model.count(what) : x.count(what)).append(' ');
        }
        for (int piece = 0; piece < 9; piece++) {
            for (int what = 0; what < 8; what++) {
                all.append(ofModel ? model.pieceOf(piece, what) : x.pieceOf(piece, what)).append(' ');
            }
        }
        for (int rank = 0; rank < 12; rank++) {
            all.append(ofModel ? model.openWay(rank) : x.openWay(rank)).append(' ');
            for (int what = 0; what < 3; what++) {
                all.append(ofModel ? model.noted(rank, what) : x.noted(rank, what)).append(' ');
            }
        }
        all.append(ofModel ? model.heaviest(1) : x.heaviest(1)).append(' ');
        all.append(ofModel ? model.ifSplit() : x.ifSplit());
        return all.toString();
    }
}
