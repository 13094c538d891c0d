import java.util.ArrayDeque;
import java.util.ArrayList;
import java.util.Deque;
import java.util.List;
import java.util.TreeSet;
import java.util.regex.Matcher;
import java.util.regex.Pattern;

/**
 * The document once more, by other means than the class has: sets of pieces that are tested for
 * being ways and sorted, texts by patterns, rows by splitting sets. It is slow and makes many
 * objects; only tests use it.
 */
final class Model {
    static final String ITEM = "(?:c[0-8]=(?:0|[1-9][0-9]{0,2})|[se][0-8]"
            + "|[jx](?:0[1-8]|1[2-8]|2[3-8]|3[4-8]|4[5-8]|5[6-8]|6[78]|78))";
    private static final Pattern GRAPH = Pattern.compile(ITEM + "(?:;" + ITEM + ")*");
    private static final Pattern ONE = Pattern.compile(ITEM);
    private static final String[] ENDINGS = {"", "c0=0", "0=0", "=0", "0", "01", "8"};

    /** What a snapshot has. */
    private static final class Held {
        int[] covers = new int[9];
        int[] rests = new int[9];
        int[] marks = new int[9];
        TreeSet<Integer> joins = new TreeSet<>();
        TreeSet<Integer> bars = new TreeSet<>();
        List<int[]> noted = new ArrayList<>();
        int steps;
        int refused;

        Held copy() {
            Held other = new Held();
            other.covers = covers.clone();
            other.rests = rests.clone();
            other.marks = marks.clone();
            other.joins = new TreeSet<>(joins);
            other.bars = new TreeSet<>(bars);
            other.noted = new ArrayList<>(noted);
            other.steps = steps;
            other.refused = refused;
            return other;
        }
    }

    private Held held = new Held();
    private final Held[] slots = new Held[2];
    private final Deque<Held> saved = new ArrayDeque<>();
    private String buffer = "";

    Model() {
        held.marks[0] = 1;
        held.marks[8] = 2;
    }

    private static void piece(int... pieces) {
        for (int piece : pieces) {
            if (piece < 0 || piece > 8) {
                throw new IndexOutOfBoundsException();
            }
        }
    }

    private static void argument(boolean fits) {
        if (!fits) {
            throw new IllegalArgumentException();
        }
    }

    private static void state(boolean fits) {
        if (!fits) {
            throw new IllegalStateException();
        }
    }

    private void save() {
        saved.addLast(held.copy());
        if (saved.size() > 6) {
            saved.removeFirst();
        }
    }

    private void anew() {
        held.rests = held.covers.clone();
        held.noted.clear();
    }

    int cover(int piece, int cover) {
        piece(piece);
        argument(cover >= 0 && cover <= 999);
        save();
        int before = held.covers[piece];
        held.covers[piece] = cover;
        anew();
        return before;
    }

    private static int toggle(TreeSet<Integer> set, int element) {
        if (set.remove(element)) {
            return 0;
        }
        set.add(element);
        return 1;
    }

    int join(int from, int to) {
        piece(from, to);
        argument(from < to);
        save();
        anew();
        return toggle(held.joins, 9 * from + to);
    }

    int mark(int piece, int what) {
        piece(piece);
        argument(what >= 0 && what <= 3);
        save();
        int before = held.marks[piece];
        held.marks[piece] = what;
        anew();
        return before;
    }

    int bar(int piece, int other) {
        piece(piece, other);
        argument(piece != other);
        save();
        anew();
        return toggle(held.bars, 9 * Math.min(piece, other) + Math.max(piece, other));
    }

    int step() {
        save();
        return makeStep();
    }

    private int makeStep() {
        int mask = heaviestMask();
        int weight = mask < 0 ? 0 : weight(mask);
        if (weight == 0 || held.noted.size() == 12) {
            held.refused++;
            return 0;
        }
        held.steps++;
        held.noted.add(new int[] {weight, mask, Integer.bitCount(mask)});
        for (int piece : pieces(mask)) {
            held.rests[piece] -= weight;
        }
        return weight;
    }

    private int makeSteps() {
        int made = 0;
        while (makeStep() > 0) {
            made++;
        }
        return made;
    }

    int split() {
        save();
        return makeSteps();
    }

    int begin() {
        save();
        int before = held.noted.size();
        anew();
        return before;
    }

    int append(int code) {
        argument(code >= 33 && code <= 126);
        state(buffer.length() < 60);
        buffer += (char) code;
        return buffer.length();
    }

    int clearBuffer() {
        int before = buffer.length();
        buffer = "";
        return before;
    }

    int firstError() {
        for (int i = 0; i < buffer.length(); i++) {
            boolean goesOn = false;
            for (String ending : ENDINGS) {
                goesOn |= GRAPH.matcher(buffer.substring(0, i + 1) + ending).matches();
            }
            if (!goesOn) {
                return i;
            }
        }
        return buffer.length();
    }

    int load() {
        argument(GRAPH.matcher(buffer).matches());
        save();
        int steps = held.steps;
        int refused = held.refused;
        held = new Held();
        held.steps = steps;
        held.refused = refused;
        Matcher items = ONE.matcher(buffer);
        while (items.find()) {
            take(items.group());
        }
        anew();
        buffer = "";
        return held.joins.size();
    }

    private void take(String item) {
        int first = item.charAt(1) - '0';
        switch (item.charAt(0)) {
            case 'c':
                held.covers[first] = Integer.parseInt(item.substring(3));
                break;
            case 's':
                held.marks[first] |= 1;
                break;
            case 'e':
                held.marks[first] |= 2;
                break;
            case 'j':
                held.joins.add(9 * first + item.charAt(2) - '0');
                break;
            default:
                held.bars.add(9 * first + item.charAt(2) - '0');
        }
    }

    int keep(int slot) {
        argument(slot == 0 || slot == 1);
        slots[slot] = held.copy();
        return held.joins.size();
    }

    int goBack(int slot) {
        argument(slot == 0 || slot == 1);
        state(slots[slot] != null);
        save();
        held = slots[slot].copy();
        return held.joins.size();
    }

    int undo() {
        state(!saved.isEmpty());
        held = saved.removeLast();
        return saved.size();
    }

    int pieceOf(int piece, int what) {
        piece(piece);
        argument(what >= 0 && what <= 7);
        int number = 0;
        switch (what) {
            case 0:
                return held.covers[piece];
            case 1:
                return held.rests[piece];
            case 2:
                return held.marks[piece];
            case 3:
                for (int join : held.joins) {
                    number += join % 9 == piece ? 1 : 0;
                }
                return number;
            case 4:
                for (int join : held.joins) {
                    number += join / 9 == piece ? 1 : 0;
                }
                return number;
            case 5:
                for (int other = 0; other < 9; other++) {
                    number += comesBehind(other, piece) ? 1 : 0;
                }
                return number;
            case 6:
                for (int mask : ways(false)) {
                    number += mask >> piece & 1;
                }
                return number;
            default:
                for (int bar : held.bars) {
                    number |= bar / 9 == piece ? 1 << bar % 9 : bar % 9 == piece ? 1 << bar / 9 : 0;
                }
                return number;
        }
    }

    int isJoined(int from, int to) {
        piece(from, to);
        return from < to && held.joins.contains(9 * from + to) ? 1 : 0;
    }

    int noted(int rank, int what) {
        argument(rank >= 0 && what >= 0 && what <= 2);
        return rank < held.noted.size() ? held.noted.get(rank)[what] : -1;
    }

    private static int sum(int[] row) {
        int sum = 0;
        for (int number : row) {
            sum += number;
        }
        return sum;
    }

    int count(int what) {
        argument(what >= 0 && what <= 11);
        switch (what) {
            case 0:
                return held.joins.size();
            case 1:
                return sum(held.covers);
            case 2:
                return sum(held.rests);
            case 3:
                return held.noted.size();
            case 4:
            case 5:
                return ways(false).size();
            case 6:
                return ways(true).size();
            case 7:
            case 8:
                return fewestRows();
            case 9:
                return held.steps;
            case 10:
                return held.refused;
            default:
                return saved.size();
        }
    }

    int heaviest(int what) {
        argument(what == 0 || what == 1);
        int mask = heaviestMask();
        return mask < 0 ? -1 : what == 1 ? mask : weight(mask);
    }

    int openWay(int rank) {
        argument(rank >= 0);
        List<Integer> open = ways(true);
        return rank < open.size() ? open.get(rank) : -1;
    }

    int ifSplit() {
        Held before = held.copy();
        makeSteps();
        int left = sum(held.rests);
        held = before;
        return left;
    }

    int mainPiece() {
        List<Integer> open = ways(true);
        int main = -1;
        long most = 0;
        for (int piece = 0; piece < 9; piece++) {
            int bit = 1 << piece;
            long in = open.stream().filter(mask -> (mask & bit) != 0).count();
            if (in > most) {
                most = in;
                main = piece;
            }
        }
        return main;
    }

    double explained() {
        double covers = sum(held.covers);
        return covers == 0 ? 1.0 : (covers - sum(held.rests)) / covers;
    }

    private static List<Integer> pieces(int mask) {
        List<Integer> pieces = new ArrayList<>();
        for (int piece = 0; piece < 9; piece++) {
            if ((mask >> piece & 1) == 1) {
                pieces.add(piece);
            }
        }
        return pieces;
    }

    private boolean isWay(List<Integer> pieces) {
        int last = pieces.size() - 1;
        if ((held.marks[pieces.get(0)] & 1) == 0 || (held.marks[pieces.get(last)] & 2) == 0) {
            return false;
        }
        for (int i = 0; i < last; i++) {
            if (!held.joins.contains(9 * pieces.get(i) + pieces.get(i + 1))) {
                return false;
            }
        }
        return true;
    }

    private boolean isOpen(List<Integer> pieces) {
        for (int piece : pieces) {
            for (int other : pieces) {
                if (held.bars.contains(9 * piece + other)) {
                    return false;
                }
            }
        }
        return true;
    }

    private static String name(int mask) {
        StringBuilder name = new StringBuilder();
        for (int piece : pieces(mask)) {
            name.append(piece);
        }
        return name.toString();
    }

    private List<Integer> ways(boolean openAlone) {
        List<Integer> ways = new ArrayList<>();
        for (int mask = 1; mask < 512; mask++) {
            List<Integer> pieces = pieces(mask);
            if (isWay(pieces) && (!openAlone || isOpen(pieces))) {
                ways.add(mask);
            }
        }
        ways.sort((one, other) -> name(one).compareTo(name(other)));
        return ways;
    }

    private int weight(int mask) {
        return pieces(mask).stream().mapToInt(piece -> held.rests[piece]).min().getAsInt();
    }

    private int heaviestMask() {
        int heaviest = -1;
        for (int mask : ways(true)) {
            if (heaviest < 0 || weight(mask) > weight(heaviest)) {
                heaviest = mask;
            }
        }
        return heaviest;
    }

    private boolean comesBehind(int other, int piece) {
        for (int next = piece + 1; next <= other; next++) {
            if (held.joins.contains(9 * piece + next) && (next == other || comesBehind(other, next))) {
                return true;
            }
        }
        return false;
    }

    private boolean isRow(List<Integer> pieces) {
        for (int i = 1; i < pieces.size(); i++) {
            if (!comesBehind(pieces.get(i), pieces.get(i - 1))) {
                return false;
            }
        }
        return true;
    }

    /** The fewest rows of each set of pieces, from those of lesser sets. */
    private int fewestRows() {
        boolean[] row = new boolean[512];
        int[] fewest = new int[512];
        for (int mask = 1; mask < 512; mask++) {
            row[mask] = isRow(pieces(mask));
            fewest[mask] = 9;
            for (int part = mask; part > 0; part = part - 1 & mask) {
                if (row[part]) {
                    fewest[mask] = Math.min(fewest[mask], 1 + fewest[mask ^ part]);
                }
            }
        }
        return fewest[511];
    }
}
