import java.util.function.IntSupplier;

/** For each promise of the document the ordinary calls, the edges and the wrong calls. */
public final class PromiseTest {
    private static final Class<?> BOUNDS = IndexOutOfBoundsException.class;
    private static final Class<?> ARGUMENT = IllegalArgumentException.class;
    private static final Class<?> STATE = IllegalStateException.class;
    private static final int NONE = BoundSearch.NONE;
    private static final int LEAST = Integer.MIN_VALUE;
    private static final int GREATEST = Integer.MAX_VALUE;
    private static final String TWELVE = "1,2,3,4,5,6,7,8,9,10,11,12";

    private static String promise = "";
    private static int wrong = 0;

    private static void due(String what, Object got, Object want) {
        if (!got.equals(want)) {
            wrong++;
            System.out.println(promise + ": " + what + " answered " + got + ", due is " + want);
        }
    }

    private static void type(BoundSearch x, String text) {
        for (char sign : text.toCharArray()) {
            x.append(sign);
        }
    }

    private static BoundSearch row(String text) {
        BoundSearch x = new BoundSearch();
        type(x, text);
        x.load();
        return x;
    }

    /** Everything that can be seen without a change. */
    private static String seen(BoundSearch x) {
        return x.digest() + " " + x.savedStates() + " " + x.firstError() + " " + x.hitShare()
                + " " + x.nodesWith(0) + " " + x.nodesWith(23);
    }

    /** The call throws exactly this, and nothing has changed. */
    private static void refused(BoundSearch x, String what, Class<?> want, IntSupplier call) {
        String before = seen(x);
        Object got = "nothing";
        try {
            call.getAsInt();
        } catch (RuntimeException e) {
            got = e.getClass();
        }
        due(what + " throws", got, want);
        due("the state after " + what, seen(x), before);
    }

    /** The call saves one state more, and undo() brings the one before back. */
    private static void undoable(BoundSearch x, String what, IntSupplier call) {
        int saved = x.savedStates();
        String before = x.digest() + " " + x.nodesWith(0);
        call.getAsInt();
        due("savedStates() after " + what, x.savedStates(), saved + 1);
        due("undo() after " + what, x.undo(), saved);
        due("the state after " + what + " and undo()", x.digest() + " " + x.nodesWith(0), before);
    }

    private static void newObject() {
        BoundSearch x = new BoundSearch();
        due("turn()", x.turn(), 0);
        due("left()", x.left(), 0);
        due("coins(0)", x.coins(0), 0);
        due("coins(1)", x.coins(1), 0);
        due("value()", x.value(), 0);
        due("bestMove()", x.bestMove(), NONE);
        due("result()", x.result(), NONE);
        due("nodes()", x.nodes(), 0);
        due("cuts()", x.cuts(), 0);
        due("hits()", x.hits(), 0);
        due("entries()", x.entries(), 0);
        due("hitShare()", x.hitShare(), 0.0);
        due("setOrder(0)", x.setOrder(0), 0);
        due("setLimit(5000)", x.setLimit(5000), 5000);
        due("useTable(true)", x.useTable(true), true);
        due("clearText()", x.clearText(), 0);
        due("savedStates()", x.savedStates(), 3);
        due("savedStates() of a new one", new BoundSearch().savedStates(), 0);
    }

    private static void load() {
        BoundSearch x = new BoundSearch();
        refused(x, "load() of nothing", ARGUMENT, x::load);
        type(x, "3,20,1");
        due("load()", x.load(), 3);
        due("the buffer", x.clearText(), 0);
        due("pile(0)", x.pile(0), 3);
        due("pile(1)", x.pile(1), 20);
        due("pile(2)", x.pile(2), 1);
        due("savedStates()", x.savedStates(), 1);
        x.play(0);
        x.search(12, -240, 241);
        int nodes = x.nodes();
        type(x, "7");
        due("load() once more", x.load(), 1);
        due("turn()", x.turn(), 0);
        due("coins(0)", x.coins(0), 0);
        due("value()", x.value(), 7);
        due("nodes() stay", x.nodes(), nodes);
        due("the table stays", x.entryKind(1, 2), 1);
        for (String text : new String[] {"3,", ",", "0", "21", "1,,2", "03", "4;", TWELVE + ",1"}) {
            x.clearText();
            type(x, text);
            refused(x, "load() of " + text, ARGUMENT, x::load);
            due("the buffer stays", x.clearText(), text.length());
        }
        type(x, TWELVE);
        due("load() of twelve", x.load(), 12);
        undoable(x, "load()", () -> {
            type(x, "5");
            return x.load();
        });
        due("the buffer after undo()", x.clearText(), 0);
    }

    private static void play() {
        BoundSearch x = row("3,9,1,2,5,8");
        refused(x, "play(-1)", BOUNDS, () -> x.play(-1));
        refused(x, "play(4)", BOUNDS, () -> x.play(4));
        refused(x, "play(least)", BOUNDS, () -> x.play(LEAST));
        for (int move = 0; move < 4; move++) {
            int now = move;
            undoable(x, "play(" + move + ")", () -> x.play(now));
        }
        due("play(2)", x.play(2), 8);
        due("turn()", x.turn(), 1);
        due("play(0)", x.play(0), 3);
        due("pile(0)", x.pile(0), 9);
        due("play(3)", x.play(3), 7);
        due("left()", x.left(), 2);
        due("play(1)", x.play(1), 10);
        due("coins(0)", x.coins(0), 15);
        due("coins(1)", x.coins(1), 13);
        refused(x, "play(0) without piles", STATE, () -> x.play(0));
        refused(x, "play(4) without piles", BOUNDS, () -> x.play(4));
        BoundSearch one = row("4");
        refused(one, "play(1) of one pile", STATE, () -> one.play(1));
        refused(one, "play(3) of one pile", STATE, () -> one.play(3));
        due("play(2) of one pile", one.play(2), 4);
    }

    private static void playBest() {
        BoundSearch x = row("3,9,1,2");
        refused(x, "playBest(0)", ARGUMENT, () -> x.playBest(0));
        refused(x, "playBest(13)", ARGUMENT, () -> x.playBest(13));
        undoable(x, "playBest(2)", () -> x.playBest(2));
        due("playBest(1)", x.playBest(1), 1);
        due("coins(0)", x.coins(0), 12);
        due("playBest(12)", x.playBest(12), 1);
        due("coins(1)", x.coins(1), 3);
        due("playBest(1) without piles", x.playBest(1), 0);
        due("savedStates()", x.savedStates(), 4);
        due("playBest(1) of one", row("6").playBest(1), 1);
        BoundSearch y = row(TWELVE);
        due("playBest(12) of twelve", y.playBest(12) >= 6, true);
        due("left()", y.left(), 0);
        due("all coins", y.coins(0) + y.coins(1), 78);
    }

    private static void turn() {
        BoundSearch x = row("1,1,1");
        for (int made = 0; made <= 3; made++) {
            due("turn() after " + made, x.turn(), made % 2);
            if (made < 3) {
                x.play(0);
            }
        }
    }

    private static void left() {
        BoundSearch x = row("1,1,1,1,1");
        due("left()", x.left(), 5);
        x.play(0);
        due("left() after 0", x.left(), 4);
        x.play(1);
        due("left() after 1", x.left(), 2);
        x.play(3);
        due("left() after 3", x.left(), 0);
    }

    private static void pile() {
        BoundSearch x = row(TWELVE);
        due("pile(0)", x.pile(0), 1);
        due("pile(11)", x.pile(11), 12);
        refused(x, "pile(12)", BOUNDS, () -> x.pile(12));
        refused(x, "pile(-1)", BOUNDS, () -> x.pile(-1));
        refused(x, "pile(greatest)", BOUNDS, () -> x.pile(GREATEST));
        x.play(1);
        x.play(2);
        due("pile(0) later", x.pile(0), 3);
        due("pile(8) later", x.pile(8), 11);
        refused(x, "pile(9) later", BOUNDS, () -> x.pile(9));
    }

    private static void coins() {
        BoundSearch x = row("3,9,1,2");
        x.play(1);
        x.play(0);
        x.play(0);
        due("coins(0)", x.coins(0), 14);
        due("coins(1)", x.coins(1), 1);
        refused(x, "coins(-1)", BOUNDS, () -> x.coins(-1));
        refused(x, "coins(2)", BOUNDS, () -> x.coins(2));
    }

    private static void value() {
        due("value() of one", row("5").value(), 5);
        due("value() of two", row("3,4").value(), 7);
        due("value() of three", row("1,1,1").value(), 1);
        BoundSearch x = row("3,9,1,2");
        due("value() of four", x.value(), 9);
        due("value() of twelve", row("1,1,1,1,1,1,1,1,1,1,1,20").value(), 19);
        x.setLimit(1);
        due("value() has no limit", x.value(), 9);
        x.play(0);
        due("value() of the other", x.value(), 8);
    }

    private static void resultOf() {
        BoundSearch x = row("3,9,1,2");
        int[] want = {-5, 9, -9, -9};
        for (int move = 0; move < 4; move++) {
            due("resultOf(" + move + ")", x.resultOf(move), want[move]);
        }
        refused(x, "resultOf(-1)", BOUNDS, () -> x.resultOf(-1));
        refused(x, "resultOf(4)", BOUNDS, () -> x.resultOf(4));
        BoundSearch one = row("5");
        due("resultOf(2) of one", one.resultOf(2), 5);
        due("resultOf(1) of one", one.resultOf(1), NONE);
        due("resultOf(3) of one", one.resultOf(3), NONE);
        due("resultOf(0) of none", new BoundSearch().resultOf(0), NONE);
    }

    private static void bestMove() {
        due("bestMove() of none", new BoundSearch().bestMove(), NONE);
        due("bestMove() of one", row("5").bestMove(), 0);
        due("bestMove() of two", row("3,4").bestMove(), 1);
        due("bestMove() at the right end", row("1,1,9,9").bestMove(), 3);
        due("bestMove() among two", row("1,1,1,2").bestMove(), 2);
    }

    private static void line() {
        BoundSearch x = row("3,9,1,2");
        due("line(0)", x.line(0), 1);
        due("line(1)", x.line(1), 1);
        due("line(2)", x.line(2), NONE);
        due("line(greatest)", x.line(GREATEST), NONE);
        refused(x, "line(-1)", BOUNDS, () -> x.line(-1));
        refused(x, "line(least)", BOUNDS, () -> x.line(LEAST));
        due("line(0) of none", new BoundSearch().line(0), NONE);
        BoundSearch y = row("7,2,20,1,4,4,19,3");
        int place = 0;
        for (int move = y.line(0); move != NONE; move = y.line(0)) {
            due("bestMove() of the line", y.bestMove(), move);
            int next = y.line(1);
            y.play(move);
            due("the line goes on", y.line(0), next);
            place++;
        }
        due("the end of the line", y.left(), 0);
        due("some moves", place >= 4, true);
    }

    private static void margin() {
        due("margin() of none", new BoundSearch().margin(), NONE);
        due("margin() of one", row("5").margin(), 0);
        due("margin() of two", row("3,4").margin(), 0);
        due("margin()", row("3,9,1,2").margin(), 14);
    }

    private static void search() {
        BoundSearch x = row("5");
        due("search(12, -240, 241)", x.search(12, -240, 241), 5);
        due("search(0, -240, 241)", x.search(0, -240, 241), 0);
        due("search(1, 240, 241)", x.search(1, 240, 241), 5);
        due("search(1, -240, -239)", x.search(1, -240, -239), 5);
        due("search of no piles", new BoundSearch().search(12, 0, 1), 0);
        refused(x, "search(-1, ..)", ARGUMENT, () -> x.search(-1, 0, 1));
        refused(x, "search(13, ..)", ARGUMENT, () -> x.search(13, 0, 1));
        refused(x, "search(.., -241, ..)", ARGUMENT, () -> x.search(1, -241, 0));
        refused(x, "search(.., 241, 242)", ARGUMENT, () -> x.search(1, 241, 242));
        refused(x, "search(.., 241, 241)", ARGUMENT, () -> x.search(1, 241, 241));
        refused(x, "search(.., 0, 242)", ARGUMENT, () -> x.search(1, 0, 242));
        refused(x, "search(.., 0, 0)", ARGUMENT, () -> x.search(1, 0, 0));
        refused(x, "search(.., greatest, least)", ARGUMENT, () -> x.search(1, GREATEST, LEAST));
        BoundSearch y = row("3,9,1,2");
        undoable(y, "search(12, -240, 241)", () -> y.search(12, -240, 241));
        due("search of four", y.search(12, -240, 241), 9);
        due("search(1, ..) is greedy", y.search(1, -240, 241), 12);
        y.setLimit(36);
        due("search that is stopped", y.search(12, -240, 241), NONE);
        y.setLimit(37);
        due("search that is not stopped", y.search(12, -240, 241), 9);
    }

    private static void result() {
        BoundSearch x = row("3,9,1,2");
        due("result() of none", x.result(), NONE);
        x.search(12, -240, 241);
        due("result()", x.result(), 9);
        x.play(0);
        due("result() stays", x.result(), 9);
        x.setLimit(1);
        x.search(12, -240, 241);
        due("result() after a stop", x.result(), NONE);
        x.undo();
        due("result() after undo()", x.result(), 9);
    }

    private static void nodes() {
        BoundSearch x = row("1,1");
        x.search(12, -240, 241);
        due("nodes()", x.nodes(), 8);
        x.search(1, -240, 241);
        due("nodes() of depth 1", x.nodes(), 5);
        x.search(0, -240, 241);
        due("nodes() of depth 0", x.nodes(), 1);
        x.setLimit(5);
        x.search(1, -240, 241);
        due("nodes() at the limit", x.nodes(), 5);
        due("result() at the limit", x.result(), 2);
        x.setLimit(4);
        x.search(1, -240, 241);
        due("nodes() above the limit", x.nodes(), 5);
        due("result() above the limit", x.result(), NONE);
    }

    private static void cuts() {
        BoundSearch x = row("5");
        x.search(12, -240, 241);
        due("cuts() of none", x.cuts(), 0);
        x.search(12, 0, 5);
        due("cuts()", x.cuts(), 1);
        due("nodes() with a cut", x.nodes(), 2);
        x.search(12, 5, 6);
        due("cuts() below the bound", x.cuts(), 0);
        BoundSearch y = row("3,9,1,2");
        y.search(12, -240, 241);
        due("cuts() of four", y.cuts(), 8);
        BoundSearch last = row("1,1,9,9");
        last.search(1, 3, 18);
        due("a cut at the last move counts", last.cuts(), 1);
        due("nodes() then", last.nodes(), 5);
    }

    private static void hits() {
        BoundSearch x = row("3,9,1,2");
        x.search(12, -240, 241);
        due("hits()", x.hits(), 1);
        x.useTable(false);
        x.search(12, -240, 241);
        due("hits() without the table", x.hits(), 0);
        x.useTable(true);
        x.search(12, -240, 241);
        x.search(0, 0, 1);
        due("hits() of the next search", x.hits(), 0);
    }

    private static void entries() {
        BoundSearch x = row("3,9,1,2");
        due("entries() before", x.entries(), 0);
        x.search(12, -240, 241);
        due("entries()", x.entries(), 9);
        x.search(1, -240, 241);
        due("entries() of depth 1", x.entries(), 1);
        x.search(0, -240, 241);
        due("entries() of depth 0", x.entries(), 0);
        x.search(12, -240, 241);
        x.useTable(false);
        due("entries() stay", x.entries(), 9);
        x.search(12, -240, 241);
        due("entries() without the table", x.entries(), 0);
    }

    private static void entryKind() {
        BoundSearch x = row("5");
        x.search(12, -240, 241);
        due("an exact one", x.entryKind(0, 1), 1);
        x.search(12, 0, 5);
        due("a lower one", x.entryKind(0, 1), 2);
        x.search(12, 5, 6);
        due("an upper one", x.entryKind(0, 1), 3);
        x.search(12, 4, 6);
        due("an exact one between", x.entryKind(0, 1), 1);
        due("none", x.entryKind(1, 1), 0);
        due("the last one", x.entryKind(11, 12), 0);
        refused(x, "entryKind(-1, 1)", BOUNDS, () -> x.entryKind(-1, 1));
        refused(x, "entryKind(12, 1)", BOUNDS, () -> x.entryKind(12, 1));
        refused(x, "entryKind(0, 0)", BOUNDS, () -> x.entryKind(0, 0));
        refused(x, "entryKind(0, 13)", BOUNDS, () -> x.entryKind(0, 13));
        BoundSearch y = row("1,1,1,1,1,1,1,1,1,1,1,6");
        for (int move = 0; move < 11; move++) {
            y.play(0);
        }
        y.search(12, -240, 241);
        due("the number in the whole row", y.entryKind(11, 1), 1);
        due("not the number in what is left", y.entryKind(0, 1), 0);
    }

    private static void entryValue() {
        BoundSearch x = row("3,9,1,2");
        due("entryValue() before", x.entryValue(0, 4), NONE);
        x.search(12, -240, 241);
        due("entryValue(0, 4)", x.entryValue(0, 4), 9);
        due("entryValue(1, 3)", x.entryValue(1, 3), 8);
        due("entryValue(0, 1)", x.entryValue(0, 1), NONE);
        due("entryValue(11, 12)", x.entryValue(11, 12), NONE);
        refused(x, "entryValue(-1, 1)", BOUNDS, () -> x.entryValue(-1, 1));
        refused(x, "entryValue(12, 1)", BOUNDS, () -> x.entryValue(12, 1));
        refused(x, "entryValue(0, 0)", BOUNDS, () -> x.entryValue(0, 0));
        refused(x, "entryValue(0, 13)", BOUNDS, () -> x.entryValue(0, 13));
        x.setLimit(20);
        x.search(12, -240, 241);
        due("the root has no entry after a stop", x.entryValue(0, 4), NONE);
        due("others have", x.entries() > 0, true);
    }

    private static void hitShare() {
        BoundSearch x = row("3,9,1,2");
        due("hitShare() of none", x.hitShare(), 0.0);
        x.search(12, -240, 241);
        due("hitShare()", x.hitShare(), 1.0 / 37.0);
        x.undo();
        due("hitShare() after undo()", x.hitShare(), 0.0);
    }

    private static void setOrder() {
        BoundSearch x = row("3,9,1,2");
        due("setOrder(23)", x.setOrder(23), 0);
        due("setOrder(7)", x.setOrder(7), 23);
        refused(x, "setOrder(-1)", ARGUMENT, () -> x.setOrder(-1));
        refused(x, "setOrder(24)", ARGUMENT, () -> x.setOrder(24));
        undoable(x, "setOrder(3)", () -> x.setOrder(3));
        due("the order that is used", x.nodesWith(7), nodesOf(x));
    }

    private static int nodesOf(BoundSearch x) {
        x.search(12, -240, 241);
        return x.nodes();
    }

    private static void order() {
        BoundSearch x = new BoundSearch();
        int before = -1;
        for (int order = 0; order < 24; order++) {
            x.setOrder(order);
            int told = 0;
            int moves = 0;
            for (int place = 0; place < 4; place++) {
                told = told * 10 + x.order(place);
                moves |= 1 << x.order(place);
            }
            due("the moves of " + order, moves, 15);
            due("the order of a dictionary at " + order, told > before, true);
            before = told;
        }
        refused(x, "order(-1)", BOUNDS, () -> x.order(-1));
        refused(x, "order(4)", BOUNDS, () -> x.order(4));
    }

    private static void setLimit() {
        BoundSearch x = row("3,9,1,2");
        due("setLimit(1)", x.setLimit(1), 5000);
        due("setLimit(5000)", x.setLimit(5000), 1);
        refused(x, "setLimit(0)", ARGUMENT, () -> x.setLimit(0));
        refused(x, "setLimit(5001)", ARGUMENT, () -> x.setLimit(5001));
        undoable(x, "setLimit(2)", () -> x.setLimit(2));
        x.setLimit(2);
        x.search(12, -240, 241);
        due("nodes()", x.nodes(), 3);
    }

    private static void useTable() {
        BoundSearch x = row("3,9,1,2");
        due("useTable(false)", x.useTable(false), true);
        due("useTable(false) again", x.useTable(false), false);
        due("useTable(true)", x.useTable(true), false);
        undoable(x, "useTable(false)", () -> x.useTable(false) ? 1 : 0);
        x.useTable(false);
        x.search(12, -240, 241);
        due("a search without it", x.nodes() > 37, true);
    }

    private static void nodesWith() {
        BoundSearch x = row("7,2,20,1,4,4");
        for (int order = 0; order < 24; order++) {
            String before = x.digest() + " " + x.savedStates();
            int nodes = x.nodesWith(order);
            due("the state", x.digest() + " " + x.savedStates(), before);
            x.setOrder(order);
            due("nodesWith(" + order + ")", nodes, nodesOf(x));
        }
        refused(x, "nodesWith(-1)", ARGUMENT, () -> x.nodesWith(-1));
        refused(x, "nodesWith(24)", ARGUMENT, () -> x.nodesWith(24));
        x.setLimit(7);
        due("nodesWith(5) that is stopped", x.nodesWith(5), 8);
        due("nodesWith(0) of none", new BoundSearch().nodesWith(0), 1);
    }

    private static void bestOrder() {
        BoundSearch x = row("7,2,20,1,4,4");
        String before = seen(x);
        int best = x.bestOrder();
        due("the state", seen(x), before);
        for (int order = 0; order < 24; order++) {
            boolean isLess = order < best
                    ? x.nodesWith(order) > x.nodesWith(best)
                    : x.nodesWith(order) >= x.nodesWith(best);
            due("nodesWith(" + order + ") beside bestOrder()", isLess, true);
        }
        due("bestOrder() is not the first one here", best > 0, true);
        x.setLimit(2);
        due("bestOrder() if all are stopped", x.bestOrder(), 0);
        due("bestOrder() of none", new BoundSearch().bestOrder(), 0);
    }

    private static void append() {
        BoundSearch x = new BoundSearch();
        due("append(33)", x.append(33), 1);
        due("append(126)", x.append(126), 2);
        refused(x, "append(32)", ARGUMENT, () -> x.append(32));
        refused(x, "append(127)", ARGUMENT, () -> x.append(127));
        for (int length = 3; length <= 60; length++) {
            due("append(49)", x.append(49), length);
        }
        refused(x, "append(49) to 60", STATE, () -> x.append(49));
        refused(x, "append(32) to 60", ARGUMENT, () -> x.append(32));
        due("savedStates()", x.savedStates(), 0);
        due("the length", x.clearText(), 60);
    }

    private static void clearText() {
        BoundSearch x = new BoundSearch();
        due("clearText() of none", x.clearText(), 0);
        type(x, "1,2");
        due("clearText()", x.clearText(), 3);
        due("append(49)", x.append(49), 1);
        due("load()", x.load(), 1);
        type(x, "8");
        x.undo();
        due("undo() leaves the buffer", x.clearText(), 1);
    }

    private static void firstError() {
        String[] right = {"", "1", "10", "20", "1,", "19,20", "2,1", "9", TWELVE};
        for (String text : right) {
            due("firstError() of " + text, errorOf(text), text.length());
        }
        due("firstError() of ,", errorOf(","), 0);
        due("firstError() of 0", errorOf("0"), 0);
        due("firstError() of 21", errorOf("21"), 1);
        due("firstError() of 30", errorOf("30"), 1);
        due("firstError() of 100", errorOf("100"), 2);
        due("firstError() of 200", errorOf("200"), 2);
        due("firstError() of 1,,", errorOf("1,,"), 2);
        due("firstError() of 1,0", errorOf("1,0"), 2);
        due("firstError() of 1/", errorOf("1/"), 1);
        due("firstError() of 1:", errorOf("1:"), 1);
        due("firstError() of a", errorOf("a1"), 0);
        due("firstError() of a 13th number", errorOf(TWELVE + ",1"), TWELVE.length());
        BoundSearch x = row("4");
        type(x, "5,x");
        x.firstError();
        due("firstError() changes nothing", x.pile(0) + " " + x.clearText(), "4 3");
    }

    private static int errorOf(String text) {
        BoundSearch x = new BoundSearch();
        type(x, text);
        return x.firstError();
    }

    private static void undo() {
        BoundSearch x = new BoundSearch();
        refused(x, "undo() of none", STATE, x::undo);
        type(x, "3,9,1,2,8,8,5");
        x.load();
        long[] digests = new long[9];
        for (int call = 0; call < 9; call++) {
            digests[call] = x.digest();
            x.search(call, -240, 241);
            due("savedStates()", x.savedStates(), Math.min(6, call + 2));
        }
        for (int call = 8; call >= 3; call--) {
            due("undo() of " + call, x.undo(), call - 3);
            due("digest() before " + call, x.digest(), digests[call]);
        }
        refused(x, "undo() once too often", STATE, x::undo);
        BoundSearch y = row("2,3");
        y.play(1);
        type(y, "9,1,1,9");
        y.load();
        y.undo();
        y.undo();
        due("the value of the row before", y.value(), 5);
        due("pile(1) of the row before", y.pile(1), 3);
    }

    private static void savedStates() {
        BoundSearch x = new BoundSearch();
        for (int call = 0; call < 8; call++) {
            due("savedStates()", x.savedStates(), Math.min(call, 6));
            x.useTable(true);
        }
        due("undo()", x.undo(), 5);
        due("savedStates() after undo()", x.savedStates(), 5);
        for (int limit = 1; limit <= 40; limit++) {
            x.setLimit(limit);
        }
        for (int left = 5; left >= 0; left--) {
            due("undo() of many", x.undo(), left);
            due("the limit before", limitOf(x), 34 + left);
        }
    }

    /** Without a trace: the call that tells the limit is undone, and saves no state too many. */
    private static int limitOf(BoundSearch x) {
        int limit = x.setLimit(1);
        x.undo();
        return limit;
    }

    private static void digest() {
        BoundSearch x = row("5");
        x.search(12, 0, 5);
        int[] first = {0, 1, 0, 0, 5, 0, 5, 2, 1, 0, 1, 5, 0, 0, 1, 2, 3, 2, 5};
        long hash = 4214L;
        for (int value : first) {
            hash = 31L * hash + value;
        }
        for (int cell = 1; cell < 144; cell++) {
            hash = 31L * (31L * hash) + NONE;
        }
        due("digest()", x.digest(), hash);
        x.play(0);
        x.undo();
        due("digest() again", x.digest(), hash);
        due("digest() without the limit", digestAfter(x), hash);
    }

    private static long digestAfter(BoundSearch x) {
        x.setLimit(77);
        x.useTable(false);
        x.append(49);
        return x.digest();
    }

    private static final Runnable[] PROMISES = {
        PromiseTest::newObject, PromiseTest::load, PromiseTest::play, PromiseTest::playBest,
        PromiseTest::turn, PromiseTest::left, PromiseTest::pile, PromiseTest::coins,
        PromiseTest::value, PromiseTest::resultOf, PromiseTest::bestMove, PromiseTest::line,
        PromiseTest::margin, PromiseTest::search, PromiseTest::result, PromiseTest::nodes,
        PromiseTest::cuts, PromiseTest::hits, PromiseTest::entries, PromiseTest::entryKind,
        PromiseTest::entryValue, PromiseTest::hitShare, PromiseTest::setOrder, PromiseTest::order,
        PromiseTest::setLimit, PromiseTest::useTable, PromiseTest::nodesWith,
        PromiseTest::bestOrder, PromiseTest::append, PromiseTest::clearText,
        PromiseTest::firstError, PromiseTest::undo, PromiseTest::savedStates, PromiseTest::digest
    };

    public static void main(String[] args) {
        for (int index = 0; index < PROMISES.length; index++) {
            promise = "promise " + (index + 1);
            try {
                PROMISES[index].run();
            } catch (RuntimeException e) {
                wrong++;
                System.out.println(promise + ": threw " + e);
            }
        }
        System.out.println(wrong == 0 ? "all promises hold" : wrong + " answers are wrong");
        if (wrong != 0) {
            System.exit(1);
        }
    }
}
