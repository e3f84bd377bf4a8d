import java.util.ArrayList;
import java.util.List;
import java.util.function.Consumer;
import java.util.function.Function;
import java.util.function.Supplier;

/** What the tests of the edges share: objects in a known state, answers, and refused calls. */
final class Edges {
    static final Class<?> BOUNDS = IndexOutOfBoundsException.class;
    static final Class<?> ARGUMENT = IllegalArgumentException.class;
    static final Class<?> STATE = IllegalStateException.class;
    static final int NONE = BoundSearch.NONE;
    static final int LEAST = Integer.MIN_VALUE;
    static final int GREATEST = Integer.MAX_VALUE;
    static final String TWELVE = "1,2,3,4,5,6,7,8,9,10,11,12";

    static int wrong = 0;
    private static String place = "";

    private Edges() {
    }

    static void begin(String nextPlace) {
        place = nextPlace;
    }

    static void fault(String what) {
        wrong++;
        System.out.println(place + "\n    " + what);
    }

    static void due(String what, Object got, Object want) {
        if (!got.equals(want)) {
            fault(what + " answered " + got + ", due is " + want);
        }
    }

    // ---- objects

    static BoundSearch type(BoundSearch x, String text) {
        for (char sign : text.toCharArray()) {
            x.append(sign);
        }
        return x;
    }

    static BoundSearch typed(String text) {
        return type(new BoundSearch(), text);
    }

    static BoundSearch row(String text) {
        BoundSearch x = typed(text);
        x.load();
        return x;
    }

    static BoundSearch played(String text, int... moves) {
        BoundSearch x = row(text);
        for (int move : moves) {
            x.play(move);
        }
        return x;
    }

    /** Nothing in it is as in a new object, and six states are saved. */
    static BoundSearch busy() {
        BoundSearch x = played("3,9,1,2,5,8,4", 2, 0);
        x.setOrder(8);
        x.setLimit(70);
        x.search(12, -240, 241);
        x.useTable(false);
        x.play(3);
        return type(x, "1,2");
    }

    /** A busy one whose buffer contains 60 characters. */
    static BoundSearch busyAndFull() {
        BoundSearch x = busy();
        for (int length = 3; length < 60; length++) {
            x.append('3');
        }
        return x;
    }

    /** A busy one that has another text in its buffer. */
    static BoundSearch busyWith(String text) {
        BoundSearch x = busy();
        x.clearText();
        return type(x, text);
    }

    static String many(String sign, int count) {
        return sign.repeat(count);
    }

    static String rowOf(String number, int count) {
        return number + many("," + number, count - 1);
    }

    // ---- what an object shows

    /** The present position: turn, piles, coins of both. */
    static String game(BoundSearch x) {
        StringBuilder told = new StringBuilder().append(x.turn()).append(" [");
        for (int pile = 0; pile < x.left(); pile++) {
            told.append(pile == 0 ? "" : ",").append(x.pile(pile));
        }
        return told.append("] ").append(x.coins(0)).append(' ').append(x.coins(1)).toString();
    }

    /** The numbers of the last search: result, nodes, cuts, hits, entries. */
    static String numbers(BoundSearch x) {
        return x.result() + " " + x.nodes() + " " + x.cuts() + " " + x.hits() + " " + x.entries();
    }

    /** An entry of the table: kind and value. */
    static String entry(BoundSearch x, int first, int count) {
        return x.entryKind(first, count) + " " + x.entryValue(first, count);
    }

    /** The four moves of the order. */
    static String order(BoundSearch x) {
        return "" + x.order(0) + x.order(1) + x.order(2) + x.order(3);
    }

    /** A row that is loaded, and searched with this order. */
    static BoundSearch searched(String row, int order, int depth, int lower, int upper) {
        BoundSearch x = row(row);
        x.setOrder(order);
        x.search(depth, lower, upper);
        return x;
    }

    static int limitOf(BoundSearch x) {
        return x.setLimit(1);
    }

    static List<Integer> lineOf(BoundSearch x) {
        List<Integer> line = new ArrayList<>();
        while (x.line(line.size()) != NONE) {
            line.add(x.line(line.size()));
        }
        return line;
    }

    /** Everything but the settings and the letters of the buffer; the object stays as it is. */
    static String seen(BoundSearch x) {
        return numbers(x) + " " + x.hitShare() + " " + game(x) + " " + x.digest() + " "
                + x.nodesWith(0) + " " + x.firstError() + " " + x.savedStates();
    }

    /** The present state and the saved ones; the object is used up. */
    static String history(BoundSearch x) {
        StringBuilder told = new StringBuilder(seen(x));
        while (x.savedStates() > 0) {
            x.undo();
            told.append('\n').append(seen(x)).append(' ').append(settingsKept(x));
        }
        return told.toString();
    }

    /** The limit and the use of the table, without a trace if fewer than six states are saved. */
    private static String settingsKept(BoundSearch x) {
        int limit = x.setLimit(1);
        x.undo();
        boolean isUsed = x.useTable(true);
        x.undo();
        return limit + " " + isUsed;
    }

    /** The limit and the use of the table; two states more are saved. */
    static String settings(BoundSearch x) {
        return x.setLimit(1) + " " + x.useTable(true);
    }

    /** The length of the buffer, and the row in it, if it is one; the object is used up. */
    static String buffer(BoundSearch x) {
        String thrown = thrownBy(x, BoundSearch::load);
        return thrown + " " + game(x) + " " + x.clearText();
    }

    // ---- calls that are refused, and calls that save

    static String thrownBy(BoundSearch x, Consumer<BoundSearch> call) {
        try {
            call.accept(x);
            return "nothing";
        } catch (RuntimeException e) {
            return e.getClass().getSimpleName();
        }
    }

    /**
     * The call throws exactly this; and what it leaves can in no way be told from an object
     * that was made likewise, without the call.
     */
    static void refused(String what, Class<?> want, Supplier<BoundSearch> make,
            Consumer<BoundSearch> call) {
        unchanged(what, want.getSimpleName(), make, call, Edges::history);
        unchanged(what, want.getSimpleName(), make, call, Edges::settings);
        unchanged(what, want.getSimpleName(), make, call, Edges::buffer);
    }

    private static void unchanged(String what, String want, Supplier<BoundSearch> make,
            Consumer<BoundSearch> call, Function<BoundSearch, String> look) {
        BoundSearch called = make.get();
        BoundSearch other = make.get();
        due(what + " throws", thrownBy(called, call), want);
        due("what is left after " + what, look.apply(called), look.apply(other));
    }

    /** The call changes nothing, and throws nothing. */
    static void changesNothing(String what, Supplier<BoundSearch> make,
            Consumer<BoundSearch> call) {
        unchanged(what, "nothing", make, call, Edges::history);
        unchanged(what, "nothing", make, call, Edges::settings);
        unchanged(what, "nothing", make, call, Edges::buffer);
    }

    /** The call saves one state more, and undo() brings back the one from before it. */
    static void saves(String what, Supplier<BoundSearch> make, Consumer<BoundSearch> call) {
        BoundSearch x = make.get();
        int saved = x.savedStates();
        call.accept(x);
        due("savedStates() after " + what, x.savedStates(), saved + 1);
        x.undo();
        BoundSearch other = make.get();
        due("the state after " + what + " and undo()", stateOf(x), stateOf(other));
    }

    private static String stateOf(BoundSearch x) {
        return x.digest() + " " + game(x) + " " + numbers(x) + " " + x.savedStates() + " "
                + order(x) + " " + settings(x);
    }
}
