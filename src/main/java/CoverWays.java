/**
 * Ways through a graph of nine pieces that explain how often each piece was covered.
 *
 * <p>Every row that a call needs is made with the object and used again: a run of calls lives in
 * one room of memory, so that no call makes an object.
 */
public final class CoverWays {
    public static final int NONE = -1;

    private static final int PIECES = 9;
    private static final int MOST_COVER = 999;
    private static final int START = 1;
    private static final int END = 2;
    private static final int MOST_NOTED = 12;
    private static final int MOST_SAVED = 6;
    private static final int SLOTS = 2;
    private static final int MOST_CHARS = 60;
    private static final int LEAST_CODE = 33;
    private static final int GREATEST_CODE = 126;

    // Pieces are masked by bits, and joins lead to greater pieces alone: a set of pieces is at
    // most one way.
    private static final int SETS = 1 << PIECES;

    private static final int NUMBERS = 12;
    private static final int PROPERTIES = 8;
    private static final int NOTED_NUMBERS = 3;
    private static final int HASHED_WAYS = 5;
    private static final long HASH_START = 3617L;

    private final State now = new State();
    private final State trial = new State();
    private final State[] saved = new State[MOST_SAVED];
    private int savedStates;
    private final State[] snapshots = new State[SLOTS];
    private final boolean[] isKept = new boolean[SLOTS];
    private final Text text = new Text();
    private final Ways ways = new Ways();
    private final Rows rows = new Rows();

    public CoverWays() {
        for (int i = 0; i < MOST_SAVED; i++) {
            saved[i] = new State();
        }
        for (int i = 0; i < SLOTS; i++) {
            snapshots[i] = new State();
        }
        now.marks[0] = START;
        now.marks[PIECES - 1] = END;
    }

    // ---- the graph; each of these begins the splitting anew

    public int cover(int piece, int cover) throws IndexOutOfBoundsException, IllegalArgumentException {
        if (!isPiece(piece)) {
            throw new IndexOutOfBoundsException("no such piece");
        }
        if (cover < 0 || cover > MOST_COVER) {
            throw new IllegalArgumentException("a cover is 0 to 999");
        }
        saveState();
        int before = now.covers[piece];
        now.covers[piece] = cover;
        now.beginAnew();
        return before;
    }

    public int join(int from, int to) throws IndexOutOfBoundsException, IllegalArgumentException {
        if (!isPiece(from) || !isPiece(to)) {
            throw new IndexOutOfBoundsException("no such piece");
        }
        if (to <= from) {
            throw new IllegalArgumentException("a join is to a greater piece");
        }
        saveState();
        now.joins[from] ^= 1 << to;
        now.beginAnew();
        return bit(now.joins[from], to);
    }

    public int mark(int piece, int what) throws IndexOutOfBoundsException, IllegalArgumentException {
        if (!isPiece(piece)) {
            throw new IndexOutOfBoundsException("no such piece");
        }
        if (what < 0 || what > (START | END)) {
            throw new IllegalArgumentException("a mark is 0 to 3");
        }
        saveState();
        int before = now.marks[piece];
        now.marks[piece] = what;
        now.beginAnew();
        return before;
    }

    public int bar(int piece, int other) throws IndexOutOfBoundsException, IllegalArgumentException {
        if (!isPiece(piece) || !isPiece(other)) {
            throw new IndexOutOfBoundsException("no such piece");
        }
        if (piece == other) {
            throw new IllegalArgumentException("a piece does not bar itself");
        }
        saveState();
        now.bars[piece] ^= 1 << other;
        now.bars[other] ^= 1 << piece;
        now.beginAnew();
        return bit(now.bars[piece], other);
    }

    // ---- splitting

    public int step() {
        saveState();
        ways.list(now);
        return takeHeaviest(now);
    }

    public int split() {
        saveState();
        ways.list(now);
        return takeAll(now);
    }

    public int begin() {
        saveState();
        int before = now.notedWays;
        now.beginAnew();
        return before;
    }

    // ---- texts, snapshots

    public int append(int code) throws IllegalArgumentException, IllegalStateException {
        if (code < LEAST_CODE || code > GREATEST_CODE) {
            throw new IllegalArgumentException("a code is 33 to 126");
        }
        if (text.length < 0 || text.length >= MOST_CHARS) {
            throw new IllegalStateException("the buffer is full");
        }
        text.codes[text.length] = code;
        text.length++;
        return text.length;
    }

    public int clearBuffer() {
        int before = text.length;
        text.length = 0;
        return before;
    }

    public int firstError() {
        return text.read();
    }

    public int load() throws IllegalArgumentException {
        if (text.read() < text.length || !text.isWhole()) {
            throw new IllegalArgumentException("the buffer does not tell a graph");
        }
        saveState();
        now.copyGraph(text.graph);
        now.beginAnew();
        text.length = 0;
        return now.countJoins();
    }

    public int keep(int slot) throws IllegalArgumentException {
        if (!isSlot(slot)) {
            throw new IllegalArgumentException("a slot is 0 or 1");
        }
        copyState(now, snapshots[slot]);
        isKept[slot] = true;
        return now.countJoins();
    }

    public int goBack(int slot) throws IllegalArgumentException, IllegalStateException {
        if (!isSlot(slot)) {
            throw new IllegalArgumentException("a slot is 0 or 1");
        }
        if (!isKept[slot]) {
            throw new IllegalStateException("no snapshot in the slot");
        }
        saveState();
        copyState(snapshots[slot], now);
        return now.countJoins();
    }

    public int undo() throws IllegalStateException {
        if (savedStates < 1 || savedStates > MOST_SAVED) {
            throw new IllegalStateException("no saved state");
        }
        savedStates--;
        copyState(saved[savedStates], now);
        return savedStates;
    }

    // ---- looks; nothing is changed

    public int pieceOf(int piece, int what) throws IndexOutOfBoundsException, IllegalArgumentException {
        if (!isPiece(piece)) {
            throw new IndexOutOfBoundsException("no such piece");
        }
        switch (what) {
            case 0:
                return now.covers[piece];
            case 1:
                return now.rests[piece];
            case 2:
                return now.marks[piece];
            case 3:
                return now.countJoinsTo(piece);
            case 4:
                return Integer.bitCount(now.joins[piece]);
            case 5:
                rows.findBehind(now);
                return Integer.bitCount(rows.behind[piece]);
            case 6:
                ways.list(now);
                return countWith(ways.all, ways.allWays, piece);
            case 7:
                return now.bars[piece];
            default:
                throw new IllegalArgumentException("a property is 0 to 7");
        }
    }

    public int isJoined(int from, int to) throws IndexOutOfBoundsException {
        if (!isPiece(from) || !isPiece(to)) {
            throw new IndexOutOfBoundsException("no such piece");
        }
        return bit(now.joins[from], to);
    }

    public int noted(int rank, int what) throws IllegalArgumentException {
        if (rank < 0 || what < 0 || what >= NOTED_NUMBERS) {
            throw new IllegalArgumentException("a rank is from 0, a number 0 to 2");
        }
        if (rank >= now.notedWays || rank >= MOST_NOTED) {
            return NONE;
        }
        if (what == 0) {
            return now.notedWeights[rank];
        }
        return what == 1 ? now.notedMasks[rank] : Integer.bitCount(now.notedMasks[rank]);
    }

    public int count(int what) throws IllegalArgumentException {
        switch (what) {
            case 0:
                return now.countJoins();
            case 1:
                return sum(now.covers);
            case 2:
                return sum(now.rests);
            case 3:
                return now.notedWays;
            case 4:
                return ways.addUp(now);
            case 5:
                ways.list(now);
                return ways.allWays;
            case 6:
                ways.list(now);
                return ways.openWays;
            case 7:
                rows.findBehind(now);
                return rows.countByPairing();
            case 8:
                rows.findBehind(now);
                return rows.countBySets();
            case 9:
                return now.steps;
            case 10:
                return now.refusals;
            case 11:
                return savedStates;
            default:
                throw new IllegalArgumentException("a number is 0 to 11");
        }
    }

    // ---- what would be; nothing is changed

    public int heaviest(int what) throws IllegalArgumentException {
        if (what != 0 && what != 1) {
            throw new IllegalArgumentException("a number is 0 or 1");
        }
        ways.list(now);
        int mask = findHeaviest(now);
        if (mask == NONE || what == 1) {
            return mask;
        }
        return now.weightOf(mask);
    }

    public int openWay(int rank) throws IllegalArgumentException {
        if (rank < 0) {
            throw new IllegalArgumentException("a rank is from 0");
        }
        ways.list(now);
        return rank < ways.openWays && rank < SETS ? ways.open[rank] : NONE;
    }

    public int ifSplit() {
        copyState(now, trial);
        ways.list(trial);
        takeAll(trial);
        return sum(trial.rests);
    }

    public int mainPiece() {
        ways.list(now);
        int main = NONE;
        int most = 0;
        for (int piece = 0; piece < PIECES; piece++) {
            int with = countWith(ways.open, ways.openWays, piece);
            if (with > most) {
                most = with;
                main = piece;
            }
        }
        return main;
    }

    public double explained() {
        int covers = sum(now.covers);
        if (covers <= 0) {
            return 1.0;
        }
        return (double) (covers - sum(now.rests)) / (double) covers;
    }

    public long digest() {
        long hash = HASH_START;
        for (int what = 0; what < NUMBERS; what++) {
            hash = mix(hash, count(what));
        }
        for (int piece = 0; piece < PIECES; piece++) {
            hash = mixPiece(hash, piece);
        }
        for (int rank = 0; rank < now.notedWays; rank++) {
            for (int what = 0; what < NOTED_NUMBERS; what++) {
                hash = mix(hash, noted(rank, what));
            }
        }
        hash = mix(hash, heaviest(0));
        hash = mix(hash, heaviest(1));
        for (int rank = 0; rank < HASHED_WAYS; rank++) {
            hash = mix(hash, openWay(rank));
        }
        hash = mix(hash, ifSplit());
        hash = mix(hash, mainPiece());
        hash = mix(hash, bitsOf(explained()));
        for (int slot = 0; slot < SLOTS; slot++) {
            hash = mix(hash, isKept[slot] ? 1 : 0);
        }
        return mixBuffer(hash);
    }

    private long mixPiece(long before, int piece) {
        long hash = before;
        for (int what = 0; what < PROPERTIES; what++) {
            hash = mix(hash, pieceOf(piece, what));
        }
        for (int to = 0; to < PIECES; to++) {
            hash = mix(hash, isJoined(piece, to));
        }
        return hash;
    }

    private long mixBuffer(long before) {
        long hash = mix(before, text.length);
        for (int i = 0; i < text.length && i < MOST_CHARS; i++) {
            hash = mix(hash, text.codes[i]);
        }
        return hash;
    }

    private static long mix(long hash, long value) {
        return 31 * hash + value;
    }

    // The library's doubleToLongBits is out of bounds here. For a share, 0 to 1, each product and
    // difference below is exact, so that the bits are the same.
    private static long bitsOf(double share) {
        if (share <= 0.0) {
            return 0L;
        }
        double scaled = share;
        long exponent = 1023;
        for (int i = 0; i < 1022 && scaled < 1.0; i++) {
            scaled = scaled * 2.0;
            exponent--;
        }
        long fraction = (long) ((scaled - 1.0) * 4503599627370496.0);
        return exponent << 52 | fraction;
    }

    private static boolean isPiece(int piece) {
        return piece >= 0 && piece < PIECES;
    }

    private static boolean isSlot(int slot) {
        return slot >= 0 && slot < SLOTS;
    }

    private static int bit(int mask, int piece) {
        return mask >> piece & 1;
    }

    private static int sum(int[] row) {
        int all = 0;
        for (int number : row) {
            all += number;
        }
        return all;
    }

    private static int countWith(int[] masks, int size, int piece) {
        int with = 0;
        for (int i = 0; i < size && i < masks.length; i++) {
            with += bit(masks[i], piece);
        }
        return with;
    }

    private void saveState() {
        if (savedStates < 0 || savedStates >= MOST_SAVED) {
            dropOldest();
        }
        copyState(now, saved[savedStates]);
        savedStates++;
    }

    // The oldest one's room goes to the end, where the next state is put into it.
    private void dropOldest() {
        State oldest = saved[0];
        for (int i = 1; i < MOST_SAVED; i++) {
            saved[i - 1] = saved[i];
        }
        saved[MOST_SAVED - 1] = oldest;
        savedStates = MOST_SAVED - 1;
    }

    private static void copyState(State from, State to) {
        if (from == null || to == null) {
            return;
        }
        to.copyGraph(from);
        to.copySplitting(from);
    }

    // Splitting leaves the ways as they are, so that the caller lists them once for all steps.
    private int findHeaviest(State state) {
        int heaviest = NONE;
        int greatest = -1;
        for (int i = 0; i < ways.openWays && i < SETS; i++) {
            int weight = state.weightOf(ways.open[i]);
            if (weight > greatest) {
                greatest = weight;
                heaviest = ways.open[i];
            }
        }
        return heaviest;
    }

    private int takeHeaviest(State state) {
        int mask = findHeaviest(state);
        int weight = mask == NONE ? 0 : state.weightOf(mask);
        if (weight <= 0 || state.notedWays >= MOST_NOTED) {
            state.refusals++;
            return 0;
        }
        state.takeWay(mask, weight);
        return weight;
    }

    private int takeAll(State state) {
        int made = 0;
        // One more than can be made, so that the refused one is counted.
        while (made <= MOST_NOTED && takeHeaviest(state) > 0) {
            made++;
        }
        return made;
    }

    /** The graph, how far it is split and what is counted so far: all that a snapshot has. */
    private static final class State {
        final int[] covers = new int[PIECES];
        final int[] marks = new int[PIECES];
        final int[] joins = new int[PIECES];
        final int[] bars = new int[PIECES];
        final int[] rests = new int[PIECES];
        final int[] notedWeights = new int[MOST_NOTED];
        final int[] notedMasks = new int[MOST_NOTED];
        int notedWays;
        int steps;
        int refusals;

        void clearGraph() {
            for (int i = 0; i < PIECES; i++) {
                covers[i] = 0;
                marks[i] = 0;
                joins[i] = 0;
                bars[i] = 0;
            }
        }

        void copyGraph(State from) {
            for (int i = 0; i < PIECES; i++) {
                covers[i] = from.covers[i];
                marks[i] = from.marks[i];
                joins[i] = from.joins[i];
                bars[i] = from.bars[i];
            }
        }

        void copySplitting(State from) {
            for (int i = 0; i < PIECES; i++) {
                rests[i] = from.rests[i];
            }
            for (int i = 0; i < MOST_NOTED; i++) {
                notedWeights[i] = from.notedWeights[i];
                notedMasks[i] = from.notedMasks[i];
            }
            notedWays = from.notedWays;
            steps = from.steps;
            refusals = from.refusals;
        }

        void beginAnew() {
            notedWays = 0;
            for (int i = 0; i < PIECES; i++) {
                rests[i] = covers[i];
            }
        }

        int countJoins() {
            int all = 0;
            for (int from = 0; from < PIECES; from++) {
                all += Integer.bitCount(joins[from]);
            }
            return all;
        }

        int countJoinsTo(int piece) {
            int all = 0;
            for (int from = 0; from < PIECES; from++) {
                all += bit(joins[from], piece);
            }
            return all;
        }

        int weightOf(int mask) {
            int least = MOST_COVER;
            for (int i = 0; i < PIECES; i++) {
                if (bit(mask, i) == 1 && rests[i] < least) {
                    least = rests[i];
                }
            }
            return least;
        }

        boolean isOpen(int mask) {
            for (int i = 0; i < PIECES; i++) {
                if (bit(mask, i) == 1 && (bars[i] & mask) != 0) {
                    return false;
                }
            }
            return true;
        }

        void takeWay(int mask, int weight) {
            if (notedWays < 0 || notedWays >= MOST_NOTED) {
                return;
            }
            notedWeights[notedWays] = weight;
            notedMasks[notedWays] = mask;
            notedWays++;
            steps++;
            for (int i = 0; i < PIECES; i++) {
                if (bit(mask, i) == 1) {
                    rests[i] -= weight;
                }
            }
        }
    }

    /** The ways of the graph that was looked at last, in the order in which ways are compared. */
    private static final class Ways {
        final int[] all = new int[SETS];
        final int[] open = new int[SETS];
        int allWays;
        int openWays;
        private final State listed = new State();
        private final int[] waysFrom = new int[PIECES];

        // Walking is dear, and most calls ask about the same graph as the call ahead of them.
        void list(State graph) {
            if (isListed(graph)) {
                return;
            }
            listed.copyGraph(graph);
            allWays = 0;
            for (int piece = 0; piece < PIECES; piece++) {
                if ((listed.marks[piece] & START) != 0) {
                    walk(this, piece, 0, 0);
                }
            }
            pickOpen();
        }

        private boolean isListed(State graph) {
            for (int i = 0; i < PIECES; i++) {
                if (listed.joins[i] != graph.joins[i] || listed.marks[i] != graph.marks[i]
                        || listed.bars[i] != graph.bars[i]) {
                    return false;
                }
            }
            return true;
        }

        private static void walk(Ways ways, int piece, int ahead, int depth) {
            if (!isPiece(piece) || depth >= PIECES) {
                return;
            }
            int mask = ahead | 1 << piece;
            // A way is noted ahead of those that it begins.
            if ((ways.listed.marks[piece] & END) != 0 && ways.allWays >= 0 && ways.allWays < SETS) {
                ways.all[ways.allWays] = mask;
                ways.allWays++;
            }
            for (int next = piece + 1; next < PIECES; next++) {
                if (bit(ways.listed.joins[piece], next) == 1) {
                    walk(ways, next, mask, depth + 1);
                }
            }
        }

        private void pickOpen() {
            openWays = 0;
            for (int i = 0; i < allWays && i < SETS; i++) {
                if (listed.isOpen(all[i]) && openWays < SETS) {
                    open[openWays] = all[i];
                    openWays++;
                }
            }
        }

        /** Tells how many ways there are without walking them. */
        int addUp(State graph) {
            int ways = 0;
            for (int piece = PIECES - 1; piece >= 0; piece--) {
                waysFrom[piece] = (graph.marks[piece] & END) != 0 ? 1 : 0;
                for (int next = piece + 1; next < PIECES; next++) {
                    waysFrom[piece] += bit(graph.joins[piece], next) * waysFrom[next];
                }
                if ((graph.marks[piece] & START) != 0) {
                    ways += waysFrom[piece];
                }
            }
            return ways;
        }
    }

    /** Which pieces come behind which, and the fewest rows that have all pieces. */
    private static final class Rows {
        final int[] behind = new int[PIECES];
        private final int[] aheadOf = new int[PIECES];
        private int tried;

        void findBehind(State graph) {
            for (int piece = PIECES - 1; piece >= 0; piece--) {
                behind[piece] = graph.joins[piece];
                for (int next = piece + 1; next < PIECES; next++) {
                    if (bit(graph.joins[piece], next) == 1) {
                        behind[piece] |= behind[next];
                    }
                }
            }
        }

        // Each pair of neighbours in a row saves one row.
        int countByPairing() {
            for (int i = 0; i < PIECES; i++) {
                aheadOf[i] = NONE;
            }
            int fewest = PIECES;
            for (int piece = 0; piece < PIECES; piece++) {
                tried = 0;
                if (findPartner(this, piece, 0)) {
                    fewest--;
                }
            }
            return fewest;
        }

        private static boolean findPartner(Rows rows, int piece, int depth) {
            if (!isPiece(piece) || depth >= PIECES) {
                return false;
            }
            for (int next = 0; next < PIECES; next++) {
                if (bit(rows.behind[piece] & ~rows.tried, next) == 1) {
                    rows.tried |= 1 << next;
                    int rival = rows.aheadOf[next];
                    if (rival == NONE || findPartner(rows, rival, depth + 1)) {
                        rows.aheadOf[next] = piece;
                        return true;
                    }
                }
            }
            return false;
        }

        // No two pieces of such a set can share a row, and as many rows as the greatest one has
        // pieces are enough.
        int countBySets() {
            int greatest = 0;
            for (int mask = 1; mask < SETS; mask++) {
                int size = Integer.bitCount(mask);
                if (size > greatest && hasNoneBehind(mask)) {
                    greatest = size;
                }
            }
            return greatest;
        }

        private boolean hasNoneBehind(int mask) {
            for (int i = 0; i < PIECES; i++) {
                if (bit(mask, i) == 1 && (behind[i] & mask) != 0) {
                    return false;
                }
            }
            return true;
        }
    }

    /** The buffer, read character by character as the text of a graph. */
    private static final class Text {
        private static final int AT_KIND = 0;
        private static final int AT_FIRST = 1;
        private static final int AT_SECOND = 2;
        private static final int AT_EQUALS = 3;
        private static final int AT_COVER = 4;
        private static final int IN_COVER = 5;
        private static final int BEHIND_ITEM = 6;

        final int[] codes = new int[MOST_CHARS];
        int length;
        final State graph = new State();
        private int place;
        private int kind;
        private int first;
        private int number;

        /** Reads the graph; returns the index of the first syntax error, or the length. */
        int read() {
            graph.clearGraph();
            place = AT_KIND;
            for (int i = 0; i < length && i < MOST_CHARS; i++) {
                if (!takeCode(codes[i])) {
                    return i;
                }
            }
            return length;
        }

        boolean isWhole() {
            return place == IN_COVER || place == BEHIND_ITEM;
        }

        private boolean takeCode(int code) {
            switch (place) {
                case AT_KIND:
                    kind = code;
                    place = AT_FIRST;
                    return code == 'c' || code == 'j' || code == 's' || code == 'e' || code == 'x';
                case AT_FIRST:
                    return takeFirst(code - '0');
                case AT_SECOND:
                    return takeSecond(code - '0');
                case AT_EQUALS:
                    place = AT_COVER;
                    number = 0;
                    return code == '=';
                case AT_COVER:
                    place = IN_COVER;
                    return takeDigit(code - '0');
                case IN_COVER:
                    return code == ';' ? takeSeparator(code) : canGrow() && takeDigit(code - '0');
                default:
                    return takeSeparator(code);
            }
        }

        private boolean takeFirst(int piece) {
            if (!isPiece(piece)) {
                return false;
            }
            first = piece;
            if (kind == 's' || kind == 'e') {
                graph.marks[piece] |= kind == 's' ? START : END;
                place = BEHIND_ITEM;
                return true;
            }
            place = kind == 'c' ? AT_EQUALS : AT_SECOND;
            // The last piece has no greater one.
            return kind == 'c' || piece < PIECES - 1;
        }

        private boolean takeSecond(int piece) {
            if (!isPiece(first) || !isPiece(piece) || piece <= first) {
                return false;
            }
            if (kind == 'j') {
                graph.joins[first] |= 1 << piece;
            } else {
                graph.bars[first] |= 1 << piece;
                graph.bars[piece] |= 1 << first;
            }
            place = BEHIND_ITEM;
            return true;
        }

        // A cover has no leading zeros, and at most three digits.
        private boolean canGrow() {
            return number > 0 && number <= MOST_COVER / 10;
        }

        private boolean takeDigit(int digit) {
            if (digit < 0 || digit > 9 || !isPiece(first)) {
                return false;
            }
            number = number * 10 + digit;
            graph.covers[first] = number;
            return true;
        }

        private boolean takeSeparator(int code) {
            place = AT_KIND;
            return code == ';';
        }
    }
}
