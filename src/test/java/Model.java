import java.util.ArrayDeque;
import java.util.ArrayList;
import java.util.HashMap;
import java.util.HashSet;
import java.util.List;
import java.util.Map;
import java.util.Set;

/**
 * The document once more, written as plainly as can be and with the Java library, so that
 * ModelTest can hold BoundSearch against it.
 */
public final class Model {
    static final int NONE = -999;

    record Position(int first, int count) {
    }

    record Entry(int kind, int value, int depth) {
    }

    static final class Stopped extends RuntimeException {
        private static final long serialVersionUID = 1L;
    }

    static final class Everything implements Cloneable {
        List<Integer> row = List.of();
        Position at = new Position(0, 0);
        int turn;
        List<Integer> coins = List.of(0, 0);
        boolean hasSearched;
        Integer result;
        int nodes;
        int cuts;
        int hits;
        Map<Position, Entry> table = Map.of();
        int order;
        int limit = 5000;
        boolean isUsed = true;

        Everything copy() {
            try {
                return (Everything) clone();
            } catch (CloneNotSupportedException e) {
                throw new AssertionError(e);
            }
        }
    }

    private Everything now = new Everything();
    private final ArrayDeque<Everything> saved = new ArrayDeque<>();
    private String buffer = "";

    private void save() {
        saved.addLast(now.copy());
        if (saved.size() > 6) {
            saved.removeFirst();
        }
    }

    private static final Set<String> NUMBERS = new HashSet<>();
    private static final Set<String> BEGINNINGS = new HashSet<>();

    static {
        for (int number = 1; number <= 20; number++) {
            String written = String.valueOf(number);
            NUMBERS.add(written);
            for (int length = 0; length <= written.length(); length++) {
                BEGINNINGS.add(written.substring(0, length));
            }
        }
    }

    static boolean beginsARow(String text) {
        String[] parts = text.split(",", -1);
        for (int part = 0; part + 1 < parts.length; part++) {
            if (!NUMBERS.contains(parts[part])) {
                return false;
            }
        }
        return parts.length <= 12 && BEGINNINGS.contains(parts[parts.length - 1]);
    }

    static boolean isRow(String text) {
        String[] parts = text.split(",", -1);
        return beginsARow(text) && NUMBERS.contains(parts[parts.length - 1]);
    }

    public int load() {
        if (!isRow(buffer)) {
            throw new IllegalArgumentException();
        }
        save();
        List<Integer> row = new ArrayList<>();
        for (String part : buffer.split(",")) {
            row.add(Integer.valueOf(part));
        }
        now.row = row;
        now.at = new Position(0, row.size());
        now.turn = 0;
        now.coins = List.of(0, 0);
        buffer = "";
        return row.size();
    }

    static boolean isPossible(Position at, int move) {
        return at.count >= (move % 2 == 0 ? 1 : 2);
    }

    static Position after(Position at, int move) {
        return switch (move) {
            case 0 -> new Position(at.first + 1, at.count - 1);
            case 1 -> new Position(at.first + 2, at.count - 2);
            case 2 -> new Position(at.first, at.count - 1);
            default -> new Position(at.first, at.count - 2);
        };
    }

    private int sum(Position at) {
        int sum = 0;
        for (int pile = at.first; pile < at.first + at.count; pile++) {
            sum += now.row.get(pile);
        }
        return sum;
    }

    private int gain(Position at, int move) {
        return sum(at) - sum(after(at, move));
    }

    private void checkMove(int move) {
        if (move < 0 || move > 3) {
            throw new IndexOutOfBoundsException();
        }
    }

    private int make(int move) {
        int gain = gain(now.at, move);
        now.coins = now.turn == 0
                ? List.of(now.coins.get(0) + gain, now.coins.get(1))
                : List.of(now.coins.get(0), now.coins.get(1) + gain);
        now.at = after(now.at, move);
        now.turn = 1 - now.turn;
        return gain;
    }

    public int play(int move) {
        checkMove(move);
        if (!isPossible(now.at, move)) {
            throw new IllegalStateException();
        }
        save();
        return make(move);
    }

    public int playBest(int moves) {
        if (moves < 1 || moves > 12) {
            throw new IllegalArgumentException();
        }
        save();
        List<Integer> line = wholeLine();
        int made = Math.min(moves, line.size());
        for (int move : line.subList(0, made)) {
            make(move);
        }
        return made;
    }

    public int turn() {
        return now.turn;
    }

    public int left() {
        return now.at.count;
    }

    public int pile(int pile) {
        if (pile < 0 || pile >= now.at.count) {
            throw new IndexOutOfBoundsException();
        }
        return now.row.get(now.at.first + pile);
    }

    public int coins(int player) {
        if (player != 0 && player != 1) {
            throw new IndexOutOfBoundsException();
        }
        return now.coins.get(player);
    }

    private int valueOf(Position at, Map<Position, Integer> known) {
        if (at.count == 0) {
            return 0;
        }
        Integer value = known.get(at);
        if (value == null) {
            value = Integer.MIN_VALUE;
            for (int move = 0; move < 4; move++) {
                if (isPossible(at, move)) {
                    value = Math.max(value, gain(at, move) - valueOf(after(at, move), known));
                }
            }
            known.put(at, value);
        }
        return value;
    }

    private int resultAt(Position at, int move) {
        return gain(at, move) - valueOf(after(at, move), new HashMap<>());
    }

    private int bestAt(Position at) {
        int value = valueOf(at, new HashMap<>());
        for (int move = 0; move < 4; move++) {
            if (isPossible(at, move) && resultAt(at, move) == value) {
                return move;
            }
        }
        return NONE;
    }

    private List<Integer> wholeLine() {
        List<Integer> line = new ArrayList<>();
        for (Position at = now.at; at.count > 0; at = after(at, line.get(line.size() - 1))) {
            line.add(bestAt(at));
        }
        return line;
    }

    public int value() {
        return valueOf(now.at, new HashMap<>());
    }

    public int resultOf(int move) {
        checkMove(move);
        return isPossible(now.at, move) ? resultAt(now.at, move) : NONE;
    }

    public int bestMove() {
        return bestAt(now.at);
    }

    public int line(int index) {
        if (index < 0) {
            throw new IndexOutOfBoundsException();
        }
        List<Integer> line = wholeLine();
        return index < line.size() ? line.get(index) : NONE;
    }

    public int margin() {
        List<Integer> results = new ArrayList<>();
        for (int move = 0; move < 4; move++) {
            if (isPossible(now.at, move)) {
                results.add(resultAt(now.at, move));
            }
        }
        results.sort(null);
        int count = results.size();
        return count < 2 ? NONE : results.get(count - 1) - results.get(count - 2);
    }

    private static final List<int[]> ORDERS = allOrders();

    private static List<int[]> allOrders() {
        List<int[]> all = new ArrayList<>();
        for (int digits = 0; digits <= 3210; digits++) {
            int[] moves = {digits / 1000, digits / 100 % 10, digits / 10 % 10, digits % 10};
            Set<Integer> different = new HashSet<>();
            for (int move : moves) {
                if (move < 4) {
                    different.add(move);
                }
            }
            if (different.size() == 4) {
                all.add(moves);
            }
        }
        return all;
    }

    static int[] movesOf(int order) {
        return ORDERS.get(order);
    }

    private int explore(Position at, int depth, int lower, int upper) {
        now.nodes++;
        if (now.nodes > now.limit) {
            throw new Stopped();
        }
        if (at.count == 0 || depth == 0) {
            return 0;
        }
        Entry entry = now.isUsed ? now.table.get(at) : null;
        if (entry != null && entry.depth == depth && (entry.kind == 1
                || entry.kind == 2 && entry.value >= upper
                || entry.kind == 3 && entry.value <= lower)) {
            now.hits++;
            return entry.value;
        }
        Integer greatest = null;
        for (int move : movesOf(now.order)) {
            if (isPossible(at, move)) {
                int gain = gain(at, move);
                int floor = greatest == null ? lower : Math.max(lower, greatest);
                int result = gain - explore(after(at, move), depth - 1, gain - upper, gain - floor);
                greatest = greatest == null ? result : Math.max(greatest, result);
                if (result >= upper) {
                    now.cuts++;
                    break;
                }
            }
        }
        if (now.isUsed) {
            int kind = greatest >= upper ? 2 : greatest <= lower ? 3 : 1;
            now.table.put(at, new Entry(kind, greatest, depth));
        }
        return greatest;
    }

    private void searchNow(int depth, int lower, int upper) {
        now.hasSearched = true;
        now.nodes = 0;
        now.cuts = 0;
        now.hits = 0;
        now.table = new HashMap<>();
        try {
            now.result = explore(now.at, depth, lower, upper);
        } catch (Stopped e) {
            now.result = null;
        }
    }

    public int search(int depth, int lower, int upper) {
        if (depth < 0 || depth > 12 || lower < -240 || lower > 240
                || upper < lower + 1 || upper > 241) {
            throw new IllegalArgumentException();
        }
        save();
        searchNow(depth, lower, upper);
        return result();
    }

    public int result() {
        return now.result == null ? NONE : now.result;
    }

    public int nodes() {
        return now.nodes;
    }

    public int cuts() {
        return now.cuts;
    }

    public int hits() {
        return now.hits;
    }

    public int entries() {
        return now.table.size();
    }

    private Entry entry(int first, int count) {
        if (first < 0 || first > 11 || count < 1 || count > 12) {
            throw new IndexOutOfBoundsException();
        }
        return now.table.get(new Position(first, count));
    }

    public int entryKind(int first, int count) {
        Entry entry = entry(first, count);
        return entry == null ? 0 : entry.kind;
    }

    public int entryValue(int first, int count) {
        Entry entry = entry(first, count);
        return entry == null ? NONE : entry.value;
    }

    public double hitShare() {
        return now.hasSearched ? (double) now.hits / (double) now.nodes : 0.0;
    }

    private void checkOrder(int order) {
        if (order < 0 || order > 23) {
            throw new IllegalArgumentException();
        }
    }

    public int setOrder(int order) {
        checkOrder(order);
        save();
        int before = now.order;
        now.order = order;
        return before;
    }

    public int order(int index) {
        if (index < 0 || index > 3) {
            throw new IndexOutOfBoundsException();
        }
        return movesOf(now.order)[index];
    }

    public int setLimit(int limit) {
        if (limit < 1 || limit > 5000) {
            throw new IllegalArgumentException();
        }
        save();
        int before = now.limit;
        now.limit = limit;
        return before;
    }

    public boolean useTable(boolean isUsed) {
        save();
        boolean before = now.isUsed;
        now.isUsed = isUsed;
        return before;
    }

    public int nodesWith(int order) {
        checkOrder(order);
        Everything kept = now;
        now = kept.copy();
        now.order = order;
        searchNow(12, -240, 241);
        int nodes = now.nodes;
        now = kept;
        return nodes;
    }

    public int bestOrder() {
        int best = 0;
        for (int order = 23; order >= 0; order--) {
            if (nodesWith(order) <= nodesWith(best)) {
                best = order;
            }
        }
        return best;
    }

    public int append(int code) {
        if (code < 33 || code > 126) {
            throw new IllegalArgumentException();
        }
        if (buffer.length() == 60) {
            throw new IllegalStateException();
        }
        buffer += (char) code;
        return buffer.length();
    }

    public int clearText() {
        int length = buffer.length();
        buffer = "";
        return length;
    }

    public int firstError() {
        for (int index = 0; index < buffer.length(); index++) {
            if (!beginsARow(buffer.substring(0, index + 1))) {
                return index;
            }
        }
        return buffer.length();
    }

    public int undo() {
        if (saved.isEmpty()) {
            throw new IllegalStateException();
        }
        now = saved.removeLast();
        return saved.size();
    }

    public int savedStates() {
        return saved.size();
    }

    public long digest() {
        List<Integer> values = new ArrayList<>(List.of(turn(), left(), coins(0), coins(1), value(),
                margin(), result(), nodes(), cuts(), hits()));
        values.add(entries());
        for (int pile = 0; pile < left(); pile++) {
            values.add(pile(pile));
        }
        values.addAll(wholeLine());
        for (int move : movesOf(now.order)) {
            values.add(move);
        }
        for (int first = 0; first < 12; first++) {
            for (int count = 1; count <= 12; count++) {
                values.add(entryKind(first, count));
                values.add(entryValue(first, count));
            }
        }
        long hash = 4214;
        for (int value : values) {
            hash = 31 * hash + value;
        }
        return hash;
    }
}
