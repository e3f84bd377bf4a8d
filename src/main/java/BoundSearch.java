/**
 * A game with a row of piles that is searched between two bounds, as DOC.md tells it.
 *
 * The state that undo() brings back is one object of State. A search works in rows of its own
 * (class Searcher) and is copied into the state at its end, so that forecasts leave no trace.
 * No call makes an object: every row is made by the constructor and used again.
 */
public final class BoundSearch {
    public static final int NONE = -999;

    private static final int MOST_PILES = 12;
    private static final int MOST_COINS = 20;
    private static final int POSITIONS = 144;
    private static final int MOVES = 4;
    private static final int ORDERS = 24;
    private static final int MOST_DEPTH = 12;
    private static final int LEAST_BOUND = -240;
    private static final int GREATEST_BOUND = 241;
    private static final int MOST_NODES = 5000;
    private static final int MOST_CHARACTERS = 60;
    private static final int MOST_SAVED = 6;
    private static final long FIRST_HASH = 4214L;

    private static final int NO_ENTRY = 0;
    private static final int EXACT = 1;
    private static final int LOWER = 2;
    private static final int UPPER = 3;

    /** The 24 orders one behind the other, four moves each. */
    private static final int[] ORDER_MOVES = {
        0, 1, 2, 3,  0, 1, 3, 2,  0, 2, 1, 3,  0, 2, 3, 1,  0, 3, 1, 2,  0, 3, 2, 1,
        1, 0, 2, 3,  1, 0, 3, 2,  1, 2, 0, 3,  1, 2, 3, 0,  1, 3, 0, 2,  1, 3, 2, 0,
        2, 0, 1, 3,  2, 0, 3, 1,  2, 1, 0, 3,  2, 1, 3, 0,  2, 3, 0, 1,  2, 3, 1, 0,
        3, 0, 1, 2,  3, 0, 2, 1,  3, 1, 0, 2,  3, 1, 2, 0,  3, 2, 0, 1,  3, 2, 1, 0
    };

    private final State state = new State();
    private final History history = new History();
    private final RowText text = new RowText();
    private final FullSearch full = new FullSearch();
    private final Searcher searcher = new Searcher();

    public BoundSearch() {
    }

    // ---- game

    public int load() throws IllegalArgumentException {
        if (!text.isRow()) {
            throw new IllegalArgumentException("the buffer is not a row text");
        }
        history.save(state);
        state.game.begin(text.numbers, text.count);
        full.solve(state.game);
        text.length = 0;
        return state.game.left;
    }

    public int play(int move) throws IndexOutOfBoundsException, IllegalStateException {
        if (!isMove(move)) {
            throw new IndexOutOfBoundsException("there is no such move");
        }
        if (!isPossible(move, state.game.left)) {
            throw new IllegalStateException("the move is not possible");
        }
        history.save(state);
        return state.game.make(move);
    }

    public int playBest(int moves) throws IllegalArgumentException {
        if (moves < 1 || moves > MOST_PILES) {
            throw new IllegalArgumentException("moves is out of range");
        }
        history.save(state);
        int made = 0;
        while (made < moves && state.game.left > 0) {
            state.game.make(bestMove());
            made++;
        }
        return made;
    }

    public int turn() {
        return state.game.turn;
    }

    public int left() {
        return state.game.left;
    }

    public int pile(int pile) throws IndexOutOfBoundsException {
        if (pile < 0 || pile >= state.game.left) {
            throw new IndexOutOfBoundsException("there is no such pile");
        }
        return at(state.game.piles, state.game.first + pile);
    }

    public int coins(int player) throws IndexOutOfBoundsException {
        if (player < 0 || player > 1) {
            throw new IndexOutOfBoundsException("there is no such player");
        }
        return player == 0 ? state.game.coins0 : state.game.coins1;
    }

    // ---- full search; nothing changes

    public int value() {
        return full.valueAt(state.game.first, state.game.left);
    }

    public int resultOf(int move) throws IndexOutOfBoundsException {
        if (!isMove(move)) {
            throw new IndexOutOfBoundsException("there is no such move");
        }
        return full.resultAt(state.game.first, state.game.left, move);
    }

    public int bestMove() {
        return full.bestMoveAt(state.game.first, state.game.left);
    }

    public int line(int index) throws IndexOutOfBoundsException {
        if (index < 0) {
            throw new IndexOutOfBoundsException("index is negative");
        }
        int first = state.game.first;
        int left = state.game.left;
        for (int place = 0; place < MOST_PILES && left > 0; place++) {
            int move = full.bestMoveAt(first, left);
            if (place == index) {
                return move;
            }
            first = firstAfter(first, move);
            left = leftAfter(left, move);
        }
        return NONE;
    }

    public int margin() {
        int best = bestMove();
        int next = NONE;
        for (int move = 0; move < MOVES; move++) {
            if (move != best && isPossible(move, state.game.left)) {
                next = Math.max(next, full.resultAt(state.game.first, state.game.left, move));
            }
        }
        return next == NONE ? NONE : value() - next;
    }

    // ---- search with bounds

    public int search(int depth, int lower, int upper) throws IllegalArgumentException {
        if (depth < 0 || depth > MOST_DEPTH) {
            throw new IllegalArgumentException("depth is out of range");
        }
        if (lower < LEAST_BOUND || lower >= GREATEST_BOUND) {
            throw new IllegalArgumentException("lower is out of range");
        }
        if (upper <= lower || upper > GREATEST_BOUND) {
            throw new IllegalArgumentException("upper is out of range");
        }
        history.save(state);
        searcher.run(state, state.order, depth, lower, upper);
        state.found.copyFrom(searcher.found);
        return state.found.answer;
    }

    public int result() {
        return state.found.answer;
    }

    public int nodes() {
        return state.found.nodeCount;
    }

    public int cuts() {
        return state.found.cutCount;
    }

    public int hits() {
        return state.found.hitCount;
    }

    public int entries() {
        int entries = 0;
        for (int cell = 0; cell < POSITIONS; cell++) {
            if (at(state.found.kinds, cell) != NO_ENTRY) {
                entries++;
            }
        }
        return entries;
    }

    public int entryKind(int first, int count) throws IndexOutOfBoundsException {
        if (!isPosition(first, count)) {
            throw new IndexOutOfBoundsException("there is no such position");
        }
        return at(state.found.kinds, cell(first, count));
    }

    public int entryValue(int first, int count) throws IndexOutOfBoundsException {
        if (!isPosition(first, count)) {
            throw new IndexOutOfBoundsException("there is no such position");
        }
        int cell = cell(first, count);
        return at(state.found.kinds, cell) == NO_ENTRY ? NONE : at(state.found.values, cell);
    }

    public double hitShare() {
        int nodes = state.found.nodeCount;
        return nodes > 0 ? (double) state.found.hitCount / (double) nodes : 0.0;
    }

    // ---- settings

    public int setOrder(int order) throws IllegalArgumentException {
        if (!isOrder(order)) {
            throw new IllegalArgumentException("order is out of range");
        }
        history.save(state);
        int before = state.order;
        state.order = order;
        return before;
    }

    public int order(int index) throws IndexOutOfBoundsException {
        if (index < 0 || index >= MOVES) {
            throw new IndexOutOfBoundsException("index is out of range");
        }
        return moveOfOrder(state.order, index);
    }

    public int setLimit(int limit) throws IllegalArgumentException {
        if (limit < 1 || limit > MOST_NODES) {
            throw new IllegalArgumentException("limit is out of range");
        }
        history.save(state);
        int before = state.limit;
        state.limit = limit;
        return before;
    }

    public boolean useTable(boolean isUsed) {
        history.save(state);
        boolean wasUsed = state.isTableUsed;
        state.isTableUsed = isUsed;
        return wasUsed;
    }

    // ---- forecasts; they change nothing

    public int nodesWith(int order) throws IllegalArgumentException {
        if (!isOrder(order)) {
            throw new IllegalArgumentException("order is out of range");
        }
        return forecast(order);
    }

    public int bestOrder() {
        int best = 0;
        int least = forecast(0);
        for (int order = 1; order < ORDERS; order++) {
            int nodes = forecast(order);
            if (nodes < least) {
                least = nodes;
                best = order;
            }
        }
        return best;
    }

    private int forecast(int order) {
        searcher.run(state, order, MOST_DEPTH, LEAST_BOUND, GREATEST_BOUND);
        return searcher.found.nodeCount;
    }

    // ---- row text

    public int append(int code) throws IllegalArgumentException, IllegalStateException {
        if (code < 33 || code > 126) {
            throw new IllegalArgumentException("code is out of range");
        }
        if (text.length >= MOST_CHARACTERS) {
            throw new IllegalStateException("the buffer is full");
        }
        put(text.codes, text.length, code);
        text.length++;
        return text.length;
    }

    public int clearText() {
        int before = text.length;
        text.length = 0;
        return before;
    }

    public int firstError() {
        return text.read();
    }

    // ---- undo

    public int undo() throws IllegalStateException {
        if (history.count == 0) {
            throw new IllegalStateException("no state is saved");
        }
        history.restore(state);
        full.solve(state.game);
        return history.count;
    }

    public int savedStates() {
        return history.count;
    }

    public long digest() {
        long hash = FIRST_HASH;
        hash = mix(hash, turn());
        hash = mix(hash, left());
        hash = mix(hash, state.game.coins0);
        hash = mix(hash, state.game.coins1);
        hash = mix(hash, value());
        hash = mix(hash, margin());
        hash = mix(hash, result());
        hash = mix(hash, nodes());
        hash = mix(hash, cuts());
        hash = mix(hash, hits());
        hash = mix(hash, entries());
        hash = mixPiles(hash);
        hash = mixLine(hash);
        for (int place = 0; place < MOVES; place++) {
            hash = mix(hash, moveOfOrder(state.order, place));
        }
        return mixTable(hash);
    }

    private long mixPiles(long before) {
        long hash = before;
        for (int pile = 0; pile < state.game.left; pile++) {
            hash = mix(hash, at(state.game.piles, state.game.first + pile));
        }
        return hash;
    }

    private long mixLine(long before) {
        long hash = before;
        int first = state.game.first;
        int left = state.game.left;
        for (int place = 0; place < MOST_PILES && left > 0; place++) {
            int move = full.bestMoveAt(first, left);
            hash = mix(hash, move);
            first = firstAfter(first, move);
            left = leftAfter(left, move);
        }
        return hash;
    }

    private long mixTable(long before) {
        long hash = before;
        for (int cell = 0; cell < POSITIONS; cell++) {
            int kind = at(state.found.kinds, cell);
            hash = mix(hash, kind);
            hash = mix(hash, kind == NO_ENTRY ? NONE : at(state.found.values, cell));
        }
        return hash;
    }

    private static long mix(long hash, int value) {
        return 31L * hash + value;
    }

    // ---- rows of numbers; every index is looked at here

    private static int at(int[] row, int index) {
        return index >= 0 && index < row.length ? row[index] : 0;
    }

    private static void put(int[] row, int index, int value) {
        if (index >= 0 && index < row.length) {
            row[index] = value;
        }
    }

    private static void copy(int[] from, int[] to) {
        for (int index = 0; index < from.length && index < to.length; index++) {
            to[index] = from[index];
        }
    }

    // ---- positions, moves and orders

    private static boolean isPosition(int first, int count) {
        return first >= 0 && first < MOST_PILES && count >= 1 && count <= MOST_PILES;
    }

    /** The cells stand in the order in which digest() goes through the positions. */
    private static int cell(int first, int count) {
        return isPosition(first, count) ? first * MOST_PILES + count - 1 : -1;
    }

    private static boolean isMove(int move) {
        return move >= 0 && move < MOVES;
    }

    private static int pilesOf(int move) {
        return move == 0 || move == 2 ? 1 : 2;
    }

    private static boolean isPossible(int move, int left) {
        return pilesOf(move) <= left;
    }

    private static int firstAfter(int first, int move) {
        return move < 2 ? first + pilesOf(move) : first;
    }

    private static int leftAfter(int left, int move) {
        return left - pilesOf(move);
    }

    private static int gainOf(int[] piles, int first, int left, int move) {
        int last = first + left - 1;
        switch (move) {
            case 0:
                return at(piles, first);
            case 1:
                return at(piles, first) + at(piles, first + 1);
            case 2:
                return at(piles, last);
            default:
                return at(piles, last) + at(piles, last - 1);
        }
    }

    private static boolean isOrder(int order) {
        return order >= 0 && order < ORDERS;
    }

    private static int moveOfOrder(int order, int place) {
        return at(ORDER_MOVES, order * MOVES + place);
    }

    /** The row, what is left of it, and what the players have. */
    private static final class Game {
        final int[] piles = new int[MOST_PILES];
        int first = 0;
        int left = 0;
        int turn = 0;
        int coins0 = 0;
        int coins1 = 0;

        void copyFrom(Game other) {
            copy(other.piles, piles);
            first = other.first;
            left = other.left;
            turn = other.turn;
            coins0 = other.coins0;
            coins1 = other.coins1;
        }

        void begin(int[] row, int count) {
            copy(row, piles);
            first = 0;
            left = count;
            turn = 0;
            coins0 = 0;
            coins1 = 0;
        }

        /** Makes a move that is possible, and tells its coins. */
        int make(int move) {
            int gain = gainOf(piles, first, left, move);
            if (turn == 0) {
                coins0 += gain;
            } else {
                coins1 += gain;
            }
            first = firstAfter(first, move);
            left = leftAfter(left, move);
            turn = 1 - turn;
            return gain;
        }
    }

    /** The values of all positions of the row; solve() is due whenever the row has changed. */
    private static final class FullSearch {
        private final int[] piles = new int[MOST_PILES];
        private final int[] solved = new int[POSITIONS];

        /** Short positions come first, since the longer ones ask for them. */
        void solve(Game game) {
            copy(game.piles, piles);
            int end = game.first + game.left;
            for (int count = 1; count <= MOST_PILES; count++) {
                for (int first = 0; first < MOST_PILES && first + count <= end; first++) {
                    int move = bestMoveAt(first, count);
                    put(solved, cell(first, count), resultAt(first, count, move));
                }
            }
        }

        int valueAt(int first, int count) {
            return count > 0 ? at(solved, cell(first, count)) : 0;
        }

        int resultAt(int first, int count, int move) {
            if (!isMove(move) || !isPossible(move, count)) {
                return NONE;
            }
            int after = valueAt(firstAfter(first, move), leftAfter(count, move));
            return gainOf(piles, first, count, move) - after;
        }

        int bestMoveAt(int first, int count) {
            int best = NONE;
            int greatest = NONE;
            for (int move = 0; move < MOVES; move++) {
                int result = resultAt(first, count, move);
                if (result > greatest) {
                    greatest = result;
                    best = move;
                }
            }
            return best;
        }
    }

    /** What a search leaves: its answer, its numbers and its table. */
    private static final class Found {
        int answer = NONE;
        int nodeCount = 0;
        int cutCount = 0;
        int hitCount = 0;
        final int[] kinds = new int[POSITIONS];
        final int[] values = new int[POSITIONS];

        void copyFrom(Found other) {
            answer = other.answer;
            nodeCount = other.nodeCount;
            cutCount = other.cutCount;
            hitCount = other.hitCount;
            copy(other.kinds, kinds);
            copy(other.values, values);
        }

        void clear() {
            answer = NONE;
            nodeCount = 0;
            cutCount = 0;
            hitCount = 0;
            for (int cell = 0; cell < POSITIONS; cell++) {
                put(kinds, cell, NO_ENTRY);
                put(values, cell, 0);
            }
        }
    }

    /** The search with bounds. The depths of entries matter during a search alone. */
    private static final class Searcher {
        final Found found = new Found();
        private final int[] piles = new int[MOST_PILES];
        private final int[] depths = new int[POSITIONS];
        private int orderUsed = 0;
        private int mostNodes = 0;
        private boolean hasTable = false;
        private boolean isStopped = false;

        void run(State state, int order, int depth, int lower, int upper) {
            copy(state.game.piles, piles);
            orderUsed = order;
            mostNodes = state.limit;
            hasTable = state.isTableUsed;
            found.clear();
            isStopped = false;
            int answer = explore(state.game.first, state.game.left, depth, lower, upper);
            found.answer = isStopped ? NONE : answer;
        }

        /** After a stop the answer of this and of tryMoves() means nothing. */
        private int explore(int first, int left, int depth, int lower, int upper) {
            found.nodeCount++;
            if (found.nodeCount > mostNodes) {
                isStopped = true;
                return 0;
            }
            if (left <= 0 || depth <= 0) {
                return 0;
            }
            int cell = cell(first, left);
            if (hasTable && isAnswer(cell, depth, lower, upper)) {
                found.hitCount++;
                return at(found.values, cell);
            }
            int best = tryMoves(first, left, depth, lower, upper);
            if (hasTable && !isStopped) {
                put(found.kinds, cell, best >= upper ? LOWER : best <= lower ? UPPER : EXACT);
                put(found.values, cell, best);
                put(depths, cell, depth);
            }
            return best;
        }

        private boolean isAnswer(int cell, int depth, int lower, int upper) {
            if (at(depths, cell) != depth) {
                return false;
            }
            int value = at(found.values, cell);
            switch (at(found.kinds, cell)) {
                case EXACT:
                    return true;
                case LOWER:
                    return value >= upper;
                case UPPER:
                    return value <= lower;
                default:
                    return false;
            }
        }

        private int tryMoves(int first, int left, int depth, int lower, int upper) {
            int best = Integer.MIN_VALUE;
            for (int place = 0; place < MOVES; place++) {
                int move = moveOfOrder(orderUsed, place);
                if (!isPossible(move, left)) {
                    continue;
                }
                int gain = gainOf(piles, first, left, move);
                int floor = Math.max(lower, best);
                int after = explore(firstAfter(first, move), leftAfter(left, move),
                        depth - 1, gain - upper, gain - floor);
                if (isStopped) {
                    return 0;
                }
                best = Math.max(best, gain - after);
                if (best >= upper) {
                    found.cutCount++;
                    break;
                }
            }
            return best;
        }
    }

    /** The buffer, and the row that read() finds in it. */
    private static final class RowText {
        final int[] codes = new int[MOST_CHARACTERS];
        int length = 0;
        final int[] numbers = new int[MOST_PILES];
        int count = 0;
        private int number = 0;

        boolean isRow() {
            return read() == length && number > 0;
        }

        /** Reads up to the first error, and tells its index; the length if there is none. */
        int read() {
            count = 1;
            number = 0;
            for (int index = 0; index < length; index++) {
                if (!accepts(at(codes, index))) {
                    return index;
                }
            }
            return length;
        }

        private boolean accepts(int code) {
            if (code == ',') {
                return acceptsComma();
            }
            if (code < '0' || code > '9') {
                return false;
            }
            int grown = number * 10 + code - '0';
            // a number that is 0 here would be a leading zero
            if (grown < 1 || grown > MOST_COINS) {
                return false;
            }
            number = grown;
            put(numbers, count - 1, number);
            return true;
        }

        private boolean acceptsComma() {
            if (number == 0 || count >= MOST_PILES) {
                return false;
            }
            count++;
            number = 0;
            return true;
        }
    }

    /** Everything that undo() brings back. */
    private static final class State {
        final Game game = new Game();
        final Found found = new Found();
        int order = 0;
        int limit = MOST_NODES;
        boolean isTableUsed = true;

        void copyFrom(State other) {
            game.copyFrom(other.game);
            found.copyFrom(other.found);
            order = other.order;
            limit = other.limit;
            isTableUsed = other.isTableUsed;
        }
    }

    /** The saved states, a ring: the oldest one gives its place to one too many. */
    private static final class History {
        private final State[] states = new State[MOST_SAVED];
        private int oldest = 0;
        int count = 0;

        History() {
            for (int index = 0; index < MOST_SAVED && index < states.length; index++) {
                states[index] = new State();
            }
        }

        void save(State present) {
            State place = stateAt(oldest + count);
            if (place != null) {
                place.copyFrom(present);
            }
            if (count < MOST_SAVED) {
                count++;
            } else {
                oldest = oldest + 1 < MOST_SAVED ? oldest + 1 : 0;
            }
        }

        void restore(State present) {
            if (count <= 0) {
                return;
            }
            count--;
            State last = stateAt(oldest + count);
            if (last != null) {
                present.copyFrom(last);
            }
        }

        private State stateAt(int place) {
            int index = place < MOST_SAVED ? place : place - MOST_SAVED;
            return index >= 0 && index < states.length ? states[index] : null;
        }
    }
}
