import java.math.BigInteger;
import java.util.ArrayList;
import java.util.List;
import java.util.function.Consumer;
import java.util.function.Function;

/** The edges of undo and of digest(): the sections "Undo" and "Exceptions", promises 32 to 34. */
final class UndoEdges {
    private static final String UNDO = "Undo";
    private static final String SAVES = "Each method that is marked \"Undoable\" saves the state"
            + " from before the call if it does not throw an exception";
    private static final String NOTHING_CHANGES = "even if nothing changes.";
    private static final String CHANGES = "Nothing is promised beyond the answers and state changes"
            + " described above";
    private static final String FILLING = "3,4,16,19,1,20,19,11,15,12,1,1";

    private UndoEdges() {
    }

    /** So many calls that save a state; each sets the limit to its own number. */
    private static BoundSearch saved(int states) {
        BoundSearch x = new BoundSearch();
        for (int limit = 1; limit <= states; limit++) {
            x.setLimit(limit);
        }
        return x;
    }

    // ---- what the state is

    @Edge(at = UNDO, says = "The state consists of everything except the buffer and the saved"
            + " states.")
    static void theRowAndTheCoinsComeBack() {
        BoundSearch x = Edges.played("3,9,1,2,5", 1, 2);
        Edges.type(x, "20,20,20,20,20,20").load();
        x.play(3);
        x.undo();
        Edges.due("before play()", Edges.game(x), "0 [20,20,20,20,20,20] 0 0");
        x.undo();
        Edges.due("before load()", Edges.game(x), "0 [1,2] 12 5");
        Edges.due("value() before load()", x.value(), 3);
        Edges.due("bestMove() before load()", x.bestMove(), 1);
        x.undo();
        Edges.due("before the second move", Edges.game(x), "1 [1,2,5] 12 0");
        Edges.due("value() then", x.value(), 6);
        x.undo();
        Edges.due("before the first move", Edges.game(x), "0 [3,9,1,2,5] 0 0");
        x.undo();
        Edges.due("before the first load()", Edges.game(x), "0 [] 0 0");
        Edges.due("value() then", x.value(), 0);
    }

    @Edge(at = UNDO, says = "The state consists of everything except the buffer and the saved"
            + " states.")
    static void theNumbersAndTheTableComeBack() {
        BoundSearch x = Edges.searched("4,1,1", 12, 3, -3, -1);
        x.search(12, -240, 241);
        x.undo();
        Edges.due("the numbers", Edges.numbers(x), "2 14 4 1 6");
        Edges.due("(1, 1)", Edges.entry(x, 1, 1), "1 1");
        Edges.due("(1, 2)", Edges.entry(x, 1, 2), "3 2");
        Edges.due("hitShare()", x.hitShare(), 1.0 / 14.0);
        x.search(0, 0, 1);
        x.undo();
        Edges.due("the numbers after a search without entries", Edges.numbers(x), "2 14 4 1 6");
        x.undo();
        Edges.due("the numbers before all searches", Edges.numbers(x), "-999 0 0 0 0");
        Edges.due("(1, 1) before all searches", Edges.entry(x, 1, 1), "0 -999");
    }

    @Edge(at = UNDO, says = "The state consists of everything except the buffer and the saved"
            + " states.")
    static void theSettingsComeBack() {
        BoundSearch x = Edges.row("4,1,1");
        x.setOrder(12);
        x.setLimit(14);
        x.useTable(false);
        x.undo();
        x.search(3, -3, -1);
        Edges.due("with the table again", Edges.numbers(x), "2 14 4 1 6");
        x.undo();
        x.undo();
        Edges.due("the limit before", Edges.limitOf(x), 5000);
        x.undo();
        Edges.due("order(0)", x.order(0), 2);
        x.undo();
        Edges.due("order(0) before", x.order(0), 0);
        Edges.due("setOrder(1) tells the order before", x.setOrder(1), 0);
    }

    @Edge(at = UNDO, says = "The state consists of everything except the buffer and the saved"
            + " states.")
    static void theBufferDoesNotComeBack() {
        BoundSearch x = Edges.typed("5,6");
        x.load();
        x.undo();
        Edges.due("clearText() after load() and undo()", x.clearText(), 0);
        Edges.type(x, "7,").setLimit(9);
        Edges.type(x, "8");
        x.undo();
        Edges.due("load() of what was typed before and after", x.load(), 2);
        Edges.due("the game", Edges.game(x), "0 [7,8] 0 0");
        x.setLimit(9);
        Edges.type(x, "1,2").clearText();
        x.undo();
        Edges.due("clearText() after clearText() and undo()", x.clearText(), 0);
        BoundSearch full = Edges.busyAndFull();
        full.undo();
        Edges.due("clearText() of a full buffer", full.clearText(), 60);
    }

    // ---- what saves a state

    @Edge(at = "Promise 2: load", says = "Undoable.")
    static void loadSaves() {
        Edges.saves("load()", () -> Edges.type(Edges.played("3,9", 0), "5,6"), BoundSearch::load);
        Edges.saves("load() of a new object", () -> Edges.typed("5,6"), BoundSearch::load);
    }

    @Edge(at = "Promise 3: play", says = "Undoable.")
    static void playSaves() {
        for (int move = 0; move < 4; move++) {
            int now = move;
            Edges.saves("play(" + move + ")", () -> Edges.played("3,9,1,2,5", 0),
                    x -> x.play(now));
        }
        Edges.saves("play(0) of the last pile", () -> Edges.row("3"), x -> x.play(0));
    }

    @Edge(at = "Promise 4: playBest", says = "Undoable.")
    static void playBestSavesOneState() {
        Edges.saves("playBest(1)", () -> Edges.row("3,9,1,2,5"), x -> x.playBest(1));
        Edges.saves("playBest(12)", () -> Edges.row(Edges.TWELVE), x -> x.playBest(12));
    }

    @Edge(at = "Promise 14: search", says = "Undoable.")
    static void searchSaves() {
        Edges.saves("search(12, -240, 241)", () -> Edges.row("3,9,1,2"),
                x -> x.search(12, -240, 241));
        Edges.saves("search(12, -240, 241) once more",
                () -> Edges.searched("4,1,1", 12, 3, -3, -1), x -> x.search(12, -240, 241));
    }

    @Edge(at = "Promise 14: search", says = "Undoable.")
    static void aSearchThatIsStoppedSaves() {
        Edges.saves("search(12, -240, 241)", () -> {
            BoundSearch x = Edges.searched("4,1,1", 12, 3, -3, -1);
            x.setLimit(5);
            return x;
        }, x -> x.search(12, -240, 241));
    }

    @Edge(at = "Promise 23: setOrder", says = "Undoable.")
    static void setOrderSaves() {
        Edges.saves("setOrder(23)", () -> Edges.row("3,9,1,2"), x -> x.setOrder(23));
    }

    @Edge(at = "Promise 25: setLimit", says = "Undoable.")
    static void setLimitSaves() {
        Edges.saves("setLimit(1)", () -> Edges.row("3,9,1,2"), x -> x.setLimit(1));
    }

    @Edge(at = "Promise 26: useTable", says = "Undoable.")
    static void useTableSaves() {
        Edges.saves("useTable(false)", () -> Edges.row("3,9,1,2"), x -> x.useTable(false));
    }

    @Edge(at = UNDO, says = NOTHING_CHANGES)
    static void playBestWithoutPilesSaves() {
        Edges.saves("playBest(1)", BoundSearch::new, x -> x.playBest(1));
        Edges.saves("playBest(12) at the end", () -> Edges.played("3,9", 1), x -> x.playBest(12));
    }

    @Edge(at = UNDO, says = NOTHING_CHANGES)
    static void theSameSettingsSave() {
        Edges.saves("setOrder(0)", BoundSearch::new, x -> x.setOrder(0));
        Edges.saves("setLimit(5000)", BoundSearch::new, x -> x.setLimit(5000));
        Edges.saves("useTable(true)", BoundSearch::new, x -> x.useTable(true));
    }

    @Edge(at = UNDO, says = NOTHING_CHANGES)
    static void theSameSearchSaves() {
        Edges.saves("search(3, -3, -1)", () -> Edges.searched("4,1,1", 12, 3, -3, -1),
                x -> x.search(3, -3, -1));
    }

    @Edge(at = UNDO, says = NOTHING_CHANGES)
    static void theSameRowSaves() {
        Edges.saves("load()", () -> Edges.type(Edges.row("4,1,1"), "4,1,1"), BoundSearch::load);
    }

    @Edge(at = UNDO, says = SAVES)
    static void aRefusedCallSavesNothing() {
        BoundSearch x = Edges.typed("5,");
        List<Consumer<BoundSearch>> calls = List.of(BoundSearch::load, it -> it.play(0),
                it -> it.play(4), it -> it.playBest(0), it -> it.search(13, 0, 1),
                it -> it.setOrder(24), it -> it.setLimit(0), BoundSearch::undo);
        for (int call = 0; call < calls.size(); call++) {
            Edges.due("the call " + call + " throws",
                    Edges.thrownBy(x, calls.get(call)).equals("nothing"), false);
            Edges.due("savedStates() after the call " + call, x.savedStates(), 0);
        }
    }

    @Edge(at = UNDO, says = SAVES)
    static void callsThatAreNotUndoableSaveNothing() {
        BoundSearch x = Edges.row("3,9,1,2");
        x.append('1');
        x.firstError();
        x.clearText();
        x.nodesWith(0);
        x.bestOrder();
        x.digest();
        Edges.seen(x);
        Edges.entry(x, 0, 1);
        x.resultOf(0);
        x.bestMove();
        x.line(0);
        x.order(0);
        Edges.due("savedStates()", x.savedStates(), 1);
        x.undo();
        Edges.due("savedStates() after undo()", x.savedStates(), 0);
    }

    @Edge(at = UNDO, says = SAVES)
    static void typingDoesNotDiscardASavedState() {
        Edges.changesNothing("append() and clearText()", () -> Edges.busyWith(""), x -> {
            x.append('1');
            x.clearText();
        });
    }

    // ---- how many states are saved

    @Edge(at = UNDO, says = "At most 6 states are saved")
    static void sixStatesAreSaved() {
        for (int states = 0; states <= 6; states++) {
            BoundSearch x = saved(states);
            Edges.due("savedStates()", x.savedStates(), states);
            for (int left = states - 1; left >= 0; left--) {
                Edges.due("undo()", x.undo(), left);
            }
            Edges.due("the limit at first", Edges.limitOf(x), 5000);
        }
    }

    @Edge(at = UNDO, says = "when one more is saved, the oldest one is discarded.")
    static void theSeventhStateDiscardsTheOldest() {
        BoundSearch x = saved(7);
        Edges.due("savedStates()", x.savedStates(), 6);
        for (int left = 5; left >= 0; left--) {
            Edges.due("undo()", x.undo(), left);
        }
        Edges.due("undo() throws", Edges.thrownBy(x, BoundSearch::undo), "IllegalStateException");
        // the limit that the first call set: the state from before it is discarded
        Edges.due("the limit", Edges.limitOf(x), 1);
    }

    @Edge(at = UNDO, says = "when one more is saved, the oldest one is discarded.")
    static void manyStatesGoRoundAndRound() {
        for (int states = 8; states <= 40; states++) {
            BoundSearch x = saved(states);
            for (int left = 5; left >= 0; left--) {
                Edges.due("undo() after " + states, x.undo(), left);
                x.setLimit(77);
                x.undo();
                Edges.due("the limit, " + left + " left", limitKept(x), states - 6 + left);
            }
            Edges.due("undo() throws", Edges.thrownBy(x, BoundSearch::undo),
                    "IllegalStateException");
        }
    }

    /** Fewer than six states are saved, so that this leaves no trace. */
    private static int limitKept(BoundSearch x) {
        int limit = x.setLimit(1);
        x.undo();
        return limit;
    }

    // ---- exceptions

    @Edge(at = "Exceptions", says = "If more than one exception applies to a call, the one that is"
            + " listed first in its throws clause is thrown.")
    static void aMoveThatIsNoneBeforeOneThatIsNotPossible() {
        int[] moves = {-1, 4, Edges.LEAST, Edges.GREATEST};
        for (int move : moves) {
            Edges.refused("play(" + move + ") of a new game", Edges.BOUNDS, BoundSearch::new,
                    x -> x.play(move));
            Edges.refused("play(" + move + ") at the end", Edges.BOUNDS,
                    () -> Edges.played("3,4", 1), x -> x.play(move));
            Edges.refused("play(" + move + ") of one pile", Edges.BOUNDS,
                    () -> Edges.row("3"), x -> x.play(move));
        }
    }

    @Edge(at = "Exceptions", says = "If more than one exception applies to a call, the one that is"
            + " listed first in its throws clause is thrown.")
    static void aCodeThatIsNoneBeforeAFullBuffer() {
        int[] codes = {32, 127, 0, -1, Edges.LEAST, Edges.GREATEST};
        for (int code : codes) {
            Edges.refused("append(" + code + ")", Edges.ARGUMENT, Edges::busyAndFull,
                    x -> x.append(code));
        }
    }

    @Edge(at = "Exceptions", says = "A call that throws an exception changes nothing.")
    static void refusedCallsDiscardNoSavedState() {
        List<Consumer<BoundSearch>> calls = List.of(BoundSearch::load, it -> it.play(4),
                it -> it.playBest(13), it -> it.search(12, 1, 1), it -> it.setOrder(-1),
                it -> it.setLimit(5001), it -> it.append(127), it -> it.nodesWith(24));
        for (Consumer<BoundSearch> call : calls) {
            BoundSearch x = Edges.busyWith("1,,");
            Edges.due("a call throws", Edges.thrownBy(x, call).equals("nothing"), false);
            Edges.due("what is left", Edges.history(x), Edges.history(Edges.busyWith("1,,")));
        }
    }

    // ---- promises 32 and 33

    @Edge(at = "Promise 32: undo", says = "Throws IllegalStateException if no state is saved")
    static void undoOfNoStateIsRefused() {
        Edges.refused("undo() of a new object", Edges.STATE, BoundSearch::new, BoundSearch::undo);
        Edges.refused("undo() with a text", Edges.STATE, () -> Edges.typed("1,2"),
                BoundSearch::undo);
        Edges.refused("undo() once too often", Edges.STATE, UndoEdges::busyWithoutStates,
                BoundSearch::undo);
    }

    /** As busy as can be, but all saved states have been discarded or brought back. */
    private static BoundSearch busyWithoutStates() {
        BoundSearch x = Edges.busy();
        for (int saved = 0; saved < 6; saved++) {
            x.setLimit(70);
        }
        for (int undone = 0; undone < 6; undone++) {
            x.undo();
        }
        return x;
    }

    @Edge(at = "Promise 32: undo", says = "Restores the state that was saved last, and removes it"
            + " from the saved states.")
    static void undoOneByOne() {
        BoundSearch x = saved(3);
        x.undo();
        Edges.due("the limit before the third call", limitKept(x), 2);
        x.undo();
        Edges.due("the limit before the second call", limitKept(x), 1);
        x.setLimit(50);
        x.undo();
        Edges.due("the limit before the call between", limitKept(x), 1);
        x.undo();
        Edges.due("the limit before the first call", limitKept(x), 5000);
    }

    @Edge(at = "Promise 32: undo", says = "Returns the number of saved states that are left.")
    static void undoTellsFiveToNone() {
        BoundSearch x = Edges.busy();
        for (int left = 5; left >= 0; left--) {
            Edges.due("undo()", x.undo(), left);
            Edges.due("savedStates()", x.savedStates(), left);
        }
    }

    @Edge(at = "Promise 32: undo", says = "Restores the state that was saved last, and removes it"
            + " from the saved states.")
    static void undoFreesAPlace() {
        BoundSearch x = saved(9);
        x.undo();
        x.undo();
        x.setLimit(100);
        x.setLimit(200);
        Edges.due("savedStates()", x.savedStates(), 6);
        int[] limits = {100, 7, 6, 5, 4, 3};
        for (int limit : limits) {
            x.undo();
            Edges.due("the limit", limitKept(x), limit);
        }
        Edges.due("savedStates() at the end", x.savedStates(), 0);
    }

    @Edge(at = "Promise 33: savedStates", says = "Returns the number of saved states, 0 to 6.")
    static void noStateAndTheMost() {
        Edges.due("a new object", new BoundSearch().savedStates(), 0);
        Edges.due("one", saved(1).savedStates(), 1);
        Edges.due("five", saved(5).savedStates(), 5);
        Edges.due("six", saved(6).savedStates(), 6);
        Edges.due("seven", saved(7).savedStates(), 6);
        Edges.due("a hundred", saved(100).savedStates(), 6);
    }

    // ---- promise 34

    private static List<Integer> valuesOf(BoundSearch x) {
        List<Integer> values = new ArrayList<>(List.of(x.turn(), x.left(), x.coins(0), x.coins(1),
                x.value(), x.margin(), x.result(), x.nodes(), x.cuts(), x.hits()));
        values.add(x.entries());
        for (int pile = 0; pile < x.left(); pile++) {
            values.add(x.pile(pile));
        }
        values.addAll(Edges.lineOf(x));
        for (int place = 0; place < 4; place++) {
            values.add(x.order(place));
        }
        for (int first = 0; first < 12; first++) {
            for (int count = 1; count <= 12; count++) {
                values.add(x.entryKind(first, count));
                values.add(x.entryValue(first, count));
            }
        }
        return values;
    }

    private static BigInteger unwrapped(List<Integer> values) {
        BigInteger hash = BigInteger.valueOf(4214);
        for (int value : values) {
            hash = hash.multiply(BigInteger.valueOf(31)).add(BigInteger.valueOf(value));
        }
        return hash;
    }

    private static void dueDigest(String what, BoundSearch x, int size) {
        List<Integer> values = valuesOf(x);
        Edges.due("the number of values of " + what, values.size(), size);
        Edges.due("digest() of " + what, x.digest(), unwrapped(values).longValue());
    }

    @Edge(at = "Promise 34: digest", says = "in long arithmetic with overflow.")
    static void theHashWrapsAround() {
        BoundSearch x = new BoundSearch();
        // far more than the 64 bits of a long
        BigInteger hash = unwrapped(valuesOf(x));
        Edges.due("bits of the hash without overflow", hash.bitLength() > 1000, true);
        Edges.due("digest()", x.digest(), hash.longValue());
        Edges.due("digest() again", x.digest(), x.digest());
    }

    @Edge(at = "Promise 34: digest", says = "The hash starts at 4214.")
    static void theHashOfANewObject() {
        // turn to entries, no pile, no move of the line, the order, and 144 times no entry
        long hash = 4214L;
        int[] first = {0, 0, 0, 0, 0, -999, -999, 0, 0, 0, 0, 0, 1, 2, 3};
        for (int value : first) {
            hash = 31L * hash + value;
        }
        for (int position = 0; position < 144; position++) {
            hash = 31L * hash;
            hash = 31L * hash - 999L;
        }
        Edges.due("digest()", new BoundSearch().digest(), hash);
        dueDigest("a new object", new BoundSearch(), 11 + 4 + 288);
    }

    @Edge(at = "Promise 34: digest", says = "the coins of each pile that is left; the moves of the"
            + " line")
    static void theHashWithFewAndWithManyPiles() {
        dueDigest("twelve piles", Edges.row("17,3,9,7,5,19,9,2,6,5,18,18"),
                11 + 12 + 10 + 4 + 288);
        dueDigest("eleven piles", Edges.played("17,3,9,7,5,19,9,2,6,5,18,18", 2),
                11 + 11 + 9 + 4 + 288);
        dueDigest("one pile", Edges.played("3,9,1", 0, 2), 11 + 1 + 1 + 4 + 288);
        dueDigest("no pile", Edges.played("3,9,1", 0, 3), 11 + 4 + 288);
    }

    @Edge(at = "Promise 34: digest", says = "what turn(), left(), coins(0), coins(1), value(),"
            + " margin(), result(), nodes(), cuts(), hits() and entries() return")
    static void theHashAfterASearchThatWasStopped() {
        BoundSearch x = Edges.row("4,1,1");
        x.setOrder(12);
        x.setLimit(13);
        x.search(3, -3, -1);
        dueDigest("a search that was stopped", x, 11 + 3 + 2 + 4 + 288);
    }

    @Edge(at = "Promise 34: digest", says = "for each position (first from 0 to 11, and for each of"
            + " these, count from 1 to 12) what entryKind() and entryValue() return.")
    static void theHashOfTheTableFilled() {
        BoundSearch x = Edges.searched(FILLING, 19, 12, -240, 241);
        Edges.due("entries()", x.entries(), 78);
        dueDigest("a table filled", x, 11 + 12 + Edges.lineOf(x).size() + 4 + 288);
    }

    @Edge(at = "Promise 34: digest", says = "Computes a hash of the state.")
    static void theHashDoesNotTellOtherThings() {
        BoundSearch x = Edges.searched("4,1,1", 12, 3, -3, -1);
        long hash = x.digest();
        x.setLimit(1);
        x.useTable(false);
        x.append('5');
        Edges.due("digest()", x.digest(), hash);
        x.setOrder(13);
        Edges.due("another order has another hash", x.digest() == hash, false);
    }

    // ---- what calls leave as it is

    /** The objects that the calls are made on are as they should be, also after a look. */
    @Edge(at = "Not promised", says = CHANGES)
    static void theObjectsThatCallsAreMadeOn() {
        due("5 67 14 7 14", Edges::numbers);
        due("1 [9,1,2] 17 3", Edges::game);
        due("1203", Edges::order);
        due("70 false", Edges::settings);
        due("nothing 0 [1,2] 0 0 0", Edges::buffer);
        due("6", x -> "" + x.savedStates());
    }

    private static void due(String want, Function<BoundSearch, String> look) {
        Edges.due("a busy object", look.apply(Edges.busy()), want);
        BoundSearch seen = Edges.busy();
        Edges.seen(seen);
        Edges.due("a busy object that was seen", look.apply(seen), want);
        Edges.due("a busy object with another text", look.apply(Edges.busyWith("1,2")), want);
    }

    @Edge(at = "Not promised", says = CHANGES)
    static void questionsChangeNothing() {
        List<Consumer<BoundSearch>> questions = List.of(BoundSearch::turn, BoundSearch::left,
                x -> x.pile(0), x -> x.coins(1), BoundSearch::value, x -> x.resultOf(0),
                BoundSearch::bestMove, x -> x.line(0), BoundSearch::margin, BoundSearch::result,
                BoundSearch::nodes, BoundSearch::cuts, BoundSearch::hits, BoundSearch::entries,
                x -> x.entryKind(0, 1), x -> x.entryValue(0, 1), BoundSearch::hitShare,
                x -> x.order(0), x -> x.nodesWith(0), BoundSearch::bestOrder,
                BoundSearch::firstError, BoundSearch::savedStates, BoundSearch::digest);
        for (int question = 0; question < questions.size(); question++) {
            Edges.changesNothing("the question " + question, Edges::busy,
                    questions.get(question));
        }
    }

    /** After the call this shows what it shows without the call. */
    private static void leaves(String what, Consumer<BoundSearch> call,
            List<Function<BoundSearch, String>> looks) {
        for (int look = 0; look < looks.size(); look++) {
            BoundSearch called = Edges.busyWith("7,7");
            call.accept(called);
            Edges.due("look " + look + " after " + what, looks.get(look).apply(called),
                    looks.get(look).apply(Edges.busyWith("7,7")));
        }
    }

    private static String limit(BoundSearch x) {
        return "" + x.setLimit(1);
    }

    private static String use(BoundSearch x) {
        return "" + x.useTable(true);
    }

    @Edge(at = "Not promised", says = CHANGES)
    static void movesLeaveTheSettingsTheSearchAndTheBuffer() {
        List<Function<BoundSearch, String>> looks = List.of(Edges::order, UndoEdges::limit,
                UndoEdges::use, Edges::numbers, Edges::buffer);
        leaves("play(0)", x -> x.play(0), looks);
        leaves("play(3)", x -> x.play(3), looks);
        leaves("playBest(2)", x -> x.playBest(2), looks);
    }

    @Edge(at = "Promise 2: load", says = "Begins a new game with the row of piles in the buffer,"
            + " which is emptied; no coins have been taken, and player 0 is to move.")
    static void loadLeavesTheSettingsAndTheSearch() {
        leaves("load()", BoundSearch::load, List.of(Edges::order, UndoEdges::limit,
                UndoEdges::use, Edges::numbers));
    }

    @Edge(at = "Not promised", says = CHANGES)
    static void aSearchLeavesTheGameTheSettingsAndTheBuffer() {
        leaves("search(3, 0, 1)", x -> x.search(3, 0, 1), List.of(Edges::game, Edges::order,
                UndoEdges::limit, UndoEdges::use, Edges::buffer));
    }

    @Edge(at = "Not promised", says = CHANGES)
    static void eachSettingLeavesTheRest() {
        leaves("setOrder(5)", x -> x.setOrder(5), List.of(Edges::game, UndoEdges::limit,
                UndoEdges::use, Edges::numbers, Edges::buffer));
        leaves("setLimit(5)", x -> x.setLimit(5), List.of(Edges::game, Edges::order,
                UndoEdges::use, Edges::numbers, Edges::buffer));
        leaves("useTable(true)", x -> x.useTable(true), List.of(Edges::game, Edges::order,
                UndoEdges::limit, Edges::numbers, Edges::buffer));
    }

    @Edge(at = "Not promised", says = CHANGES)
    static void typingLeavesTheState() {
        List<Function<BoundSearch, String>> looks = List.of(Edges::game, Edges::order,
                UndoEdges::limit, UndoEdges::use, Edges::numbers);
        leaves("append('1')", x -> x.append('1'), looks);
        leaves("clearText()", BoundSearch::clearText, looks);
    }

    // ---- the number of calls

    @Edge(at = "What it is", says = "An object is used for at most 512 calls after it has been"
            + " made")
    static void theLastOfAllCallsAnswersToo() {
        BoundSearch x = new BoundSearch();
        for (int call = 1; call <= 505; call++) {
            Edges.due("setLimit() as call " + call, x.setLimit(call), call == 1 ? 5000 : call - 1);
        }
        for (int left = 5; left >= 0; left--) {
            Edges.due("undo()", x.undo(), left);
        }
        Edges.due("setLimit() as the last call", x.setLimit(1), 499);
    }

    @Edge(at = "What it is", says = "An object is used for at most 512 calls after it has been"
            + " made")
    static void theDearestCallAsOftenAsCanBe() {
        BoundSearch x = new BoundSearch();
        String row = "4,2,12,13,1,16,7,18,13,16,13,2";
        Edges.type(x, row).load();
        for (int call = row.length() + 2; call <= 512; call++) {
            Edges.due("bestOrder() as call " + call, x.bestOrder(), 20);
        }
    }
}
