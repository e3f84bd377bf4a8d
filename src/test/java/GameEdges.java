import java.util.List;

/** The edges of the game: the section "Game" of the document, and promises 1 to 13. */
final class GameEdges {
    private static final String GAME = "Game";

    private GameEdges() {
    }

    // ---- the constant

    @Edge(at = "Exceptions", says = "NONE = -999: There is no such number, or a search was"
            + " stopped.")
    static void noneIsMinus999() {
        Edges.due("NONE", BoundSearch.NONE, -999);
    }

    // ---- the row

    @Edge(at = GAME, says = "There is a row of at most 12 piles")
    static void twelvePilesAreAllowed() {
        BoundSearch x = Edges.row(Edges.TWELVE);
        Edges.due("left()", x.left(), 12);
        Edges.due("the row", Edges.game(x), "0 [" + Edges.TWELVE + "] 0 0");
    }

    @Edge(at = GAME, says = "There is a row of at most 12 piles")
    static void thirteenPilesAreNot() {
        Edges.refused("load() of 13 piles", Edges.ARGUMENT,
                () -> Edges.typed(Edges.TWELVE + ",13"), BoundSearch::load);
    }

    @Edge(at = GAME, says = "each of 1 to 20 coins")
    static void eachNumberOfCoinsIsAllowed() {
        for (int coins = 1; coins <= 20; coins++) {
            Edges.due("pile(0) of " + coins, Edges.row("" + coins).pile(0), coins);
            Edges.due("pile(1) of " + coins, Edges.row("7," + coins).pile(1), coins);
        }
    }

    @Edge(at = GAME, says = "each of 1 to 20 coins")
    static void noCoinsAreNot() {
        Edges.refused("load() of 0", Edges.ARGUMENT, () -> Edges.typed("0"), BoundSearch::load);
        Edges.refused("load() of 5,0", Edges.ARGUMENT, () -> Edges.typed("5,0"),
                BoundSearch::load);
    }

    @Edge(at = GAME, says = "each of 1 to 20 coins")
    static void twentyOneCoinsAreNot() {
        Edges.refused("load() of 21", Edges.ARGUMENT, () -> Edges.typed("21"), BoundSearch::load);
        Edges.refused("load() of 5,21", Edges.ARGUMENT, () -> Edges.typed("5,21"),
                BoundSearch::load);
    }

    @Edge(at = GAME, says = "at first it is empty")
    static void theRowIsEmptyAtFirst() {
        Edges.due("left()", new BoundSearch().left(), 0);
        Edges.due("pile(0) throws", Edges.thrownBy(new BoundSearch(), x -> x.pile(0)),
                "IndexOutOfBoundsException");
    }

    @Edge(at = GAME, says = "There are two players, 0 and 1; player 0 moves first")
    static void playerZeroMovesFirst() {
        BoundSearch x = Edges.row("6,5");
        Edges.due("turn()", x.turn(), 0);
        x.play(0);
        Edges.due("coins(0)", x.coins(0), 6);
        Edges.due("coins(1)", x.coins(1), 0);
    }

    @Edge(at = GAME, says = "they move by turns")
    static void theTurnGoesFromZeroToOneAndBack() {
        BoundSearch x = Edges.row("1,2,4,8,16");
        int[] turns = {1, 0, 1, 0, 1};
        for (int turn : turns) {
            x.play(0);
            Edges.due("turn()", x.turn(), turn);
        }
        Edges.due("coins(0)", x.coins(0), 21);
        Edges.due("coins(1)", x.coins(1), 10);
    }

    @Edge(at = GAME, says = "0 takes the leftmost pile, 1 the two leftmost piles,"
            + " 2 the rightmost pile, and 3 the two rightmost piles; the player gets the coins.")
    static void eachMoveTakesItsPiles() {
        String[] after = {"1 [2,4,8] 1 0", "1 [4,8] 3 0", "1 [1,2,4] 8 0", "1 [1,2] 12 0"};
        for (int move = 0; move < 4; move++) {
            Edges.due("play(" + move + ")", Edges.game(Edges.played("1,2,4,8", move)), after[move]);
        }
        BoundSearch x = Edges.played("16,1,2,4,8,16", 0, 2);
        Edges.due("play(3) between taken ones", x.play(3), 12);
        Edges.due("play(1) between taken ones", x.play(1), 3);
    }

    @Edge(at = GAME, says = "The moves 1 and 3 are possible if at least two piles are left")
    static void twoPilesAreEnoughForOneAndThree() {
        Edges.due("play(1)", Edges.row("3,4").play(1), 7);
        Edges.due("play(3)", Edges.row("3,4").play(3), 7);
        Edges.due("resultOf(1)", Edges.row("3,4").resultOf(1), 7);
        Edges.due("resultOf(3)", Edges.row("3,4").resultOf(3), 7);
        Edges.due("play(1), later", Edges.played("3,4,5", 0).play(1), 9);
        Edges.due("play(3), later", Edges.played("3,4,5", 2).play(3), 7);
    }

    @Edge(at = GAME, says = "The moves 1 and 3 are possible if at least two piles are left")
    static void onePileIsNotEnoughForOneAndThree() {
        for (int move = 1; move <= 3; move += 2) {
            int now = move;
            Edges.due("resultOf(" + move + ")", Edges.row("3").resultOf(move), Edges.NONE);
            Edges.refused("play(" + move + ") of one pile", Edges.STATE, () -> Edges.row("3"),
                    x -> x.play(now));
            Edges.refused("play(" + move + ") of one pile that is left", Edges.STATE,
                    () -> Edges.played("3,4,5", 0, 2), x -> x.play(now));
        }
    }

    @Edge(at = GAME, says = "and the moves 0 and 2 if at least one is.")
    static void onePileIsEnoughForZeroAndTwo() {
        Edges.due("play(0)", Edges.row("3").play(0), 3);
        Edges.due("play(2)", Edges.row("3").play(2), 3);
        Edges.due("resultOf(0)", Edges.row("3").resultOf(0), 3);
        Edges.due("resultOf(2)", Edges.row("3").resultOf(2), 3);
    }

    @Edge(at = GAME, says = "and the moves 0 and 2 if at least one is.")
    static void noPileIsNotEnoughForAnyMove() {
        for (int move = 0; move < 4; move++) {
            int now = move;
            Edges.due("resultOf(" + move + ")", new BoundSearch().resultOf(move), Edges.NONE);
            Edges.due("resultOf(" + move + "), later", Edges.played("3", 0).resultOf(move),
                    Edges.NONE);
            Edges.refused("play(" + move + ") of a new game", Edges.STATE, BoundSearch::new,
                    x -> x.play(now));
            Edges.refused("play(" + move + ") at the end", Edges.STATE,
                    () -> Edges.played("3", 0), x -> x.play(now));
        }
    }

    // ---- value, best move and line

    @Edge(at = GAME, says = "if both play as well as possible"
            + " (each one makes this difference as great as possible for themselves)")
    static void theValueMayBeFarFromZero() {
        Edges.due("the greatest one seen",
                Edges.row("20,1,1,20,1,1,20,1,1,20,1,1").value(), 74);
        Edges.due("the least one seen",
                Edges.row("1,1,20,1,20,20,20,20,1,20,1,1").value(), -36);
        Edges.due("of two full piles", Edges.row("20,20").value(), 40);
        Edges.due("of the least pile", Edges.row("1").value(), 1);
        Edges.due("below 0", Edges.row("2,12,20,12,1").value(), -17);
        Edges.due("of 0", Edges.row("1,1,1,1").value(), 0);
    }

    @Edge(at = GAME, says = "It is 0 if no pile is left.")
    static void theValueOfNoPilesIsZero() {
        Edges.due("value() of a new game", new BoundSearch().value(), 0);
        Edges.due("value() at the end", Edges.played("9,4", 1).value(), 0);
        Edges.due("value() at the end of twelve",
                Edges.played(Edges.TWELVE, 1, 1, 3, 3, 1, 1).value(), 0);
        // what a last move brings is its coins minus this value
        Edges.due("resultOf(1)", Edges.row("9,4").resultOf(1), 13);
    }

    @Edge(at = GAME, says = "The best move is the possible move with the greatest result,"
            + " which is the coins of the move minus the value of the position after it")
    static void eachMoveMayBeTheBestAlone() {
        String[] rows = {"5,4,3,5,1", "4,1,3", "1,5,4,2,5", "1,3,2"};
        for (int move = 0; move < 4; move++) {
            BoundSearch x = Edges.row(rows[move]);
            Edges.due("bestMove() of " + rows[move], x.bestMove(), move);
            Edges.due("its result", x.resultOf(move), x.value());
            Edges.due("margin() is not 0", x.margin() > 0, true);
        }
    }

    @Edge(at = GAME, says = "among several such moves the one with the least number.")
    static void theLeastOfSeveralBestMoves() {
        due("5,3,2,5", "the moves 0, 1", 0);
        due("3", "the moves 0, 2", 0);
        due("1,2,4,4,2", "the moves 0, 3", 0);
        due("3,5,5,3,3", "the moves 1, 2", 1);
        due("2,4", "the moves 1, 3", 1);
        due("3,2,2,4", "the moves 2, 3", 2);
        due("5,1,5,2,4,1", "the moves 0, 1, 3", 0);
        due("1,1,2,4,1,5", "the moves 1, 2, 3", 1);
        due("1,1,1,1", "the moves 0, 1, 2, 3", 0);
    }

    private static void due(String row, String moves, int best) {
        BoundSearch x = Edges.row(row);
        StringBuilder found = new StringBuilder("the moves ");
        for (int move = 0; move < 4; move++) {
            if (x.resultOf(move) == x.value()) {
                found.append(found.length() > 10 ? ", " : "").append(move);
            }
        }
        Edges.due("the best moves of " + row, found.toString(), moves);
        Edges.due("bestMove() of " + row, x.bestMove(), best);
        Edges.due("line(0) of " + row, x.line(0), best);
        Edges.due("margin() of " + row, x.margin(), 0);
    }

    @Edge(at = GAME, says = "The line is the sequence of best moves from a position on,"
            + " until no pile is left.")
    static void theLineEndsWithTheLastPile() {
        Edges.due("the line of no pile", Edges.lineOf(new BoundSearch()), List.of());
        Edges.due("the line at the end", Edges.lineOf(Edges.played("4", 2)), List.of());
        Edges.due("the line of one pile", Edges.lineOf(Edges.row("4")), List.of(0));
        Edges.due("the line of two piles", Edges.lineOf(Edges.row("4,3")), List.of(1));
    }

    @Edge(at = GAME, says = "The line is the sequence of best moves from a position on,"
            + " until no pile is left.")
    static void aLongLine() {
        BoundSearch x = Edges.row("17,3,9,7,5,19,9,2,6,5,18,18");
        List<Integer> line = Edges.lineOf(x);
        Edges.due("its length", line.size(), 10);
        for (int move : line) {
            Edges.due("bestMove()", x.bestMove(), move);
            x.play(move);
        }
        Edges.due("left()", x.left(), 0);
    }

    // ---- promise 1

    @Edge(at = "Promise 1: A new object", says = "Creates a game without piles.")
    static void aNewGameHasNoPiles() {
        BoundSearch x = new BoundSearch();
        Edges.due("the game", Edges.game(x), "0 [] 0 0");
        Edges.due("the numbers", Edges.numbers(x), "-999 0 0 0 0");
        Edges.due("bestMove()", x.bestMove(), Edges.NONE);
        Edges.due("margin()", x.margin(), Edges.NONE);
        Edges.due("line(0)", x.line(0), Edges.NONE);
        Edges.due("savedStates()", x.savedStates(), 0);
    }

    // ---- promise 2

    @Edge(at = "Promise 2: load", says = "Returns the number of piles.")
    static void loadTellsOneToTwelvePiles() {
        for (int piles = 1; piles <= 12; piles++) {
            Edges.due("load()", Edges.typed(Edges.rowOf("9", piles)).load(), piles);
            Edges.due("load() of long numbers", Edges.typed(Edges.rowOf("20", piles)).load(),
                    piles);
        }
    }

    @Edge(at = "Promise 2: load", says = "Begins a new game with the row of piles in the buffer,"
            + " which is emptied")
    static void loadEmptiesTheBuffer() {
        BoundSearch x = Edges.typed("3,20");
        x.load();
        Edges.due("firstError()", x.firstError(), 0);
        Edges.due("append()", x.append('8'), 1);
        Edges.due("load()", x.load(), 1);
        Edges.due("the game", Edges.game(x), "0 [8] 0 0");
        Edges.due("clearText()", x.clearText(), 0);
    }

    @Edge(at = "Promise 2: load", says = "Begins a new game with the row of piles in the buffer")
    static void loadTakesAShorterAndALongerRow() {
        BoundSearch x = Edges.row(Edges.TWELVE);
        Edges.type(x, "19").load();
        Edges.due("the shorter row", Edges.game(x), "0 [19] 0 0");
        Edges.due("its value", x.value(), 19);
        Edges.type(x, Edges.rowOf("20", 12)).load();
        Edges.due("the longer row", Edges.game(x), "0 [" + Edges.rowOf("20", 12) + "] 0 0");
        Edges.due("its value", x.value(), 0);
    }

    @Edge(at = "Promise 2: load", says = "no coins have been taken, and player 0 is to move.")
    static void loadBeginsWithPlayerZeroAndNoCoins() {
        BoundSearch x = Edges.played("3,4,5", 0, 0, 0);
        Edges.due("turn() before", x.turn(), 1);
        Edges.type(x, "2,2").load();
        Edges.due("the game", Edges.game(x), "0 [2,2] 0 0");
    }

    @Edge(at = "Promise 2: load", says = "Throws IllegalArgumentException if the buffer is not"
            + " a complete row text (the buffer stays)")
    static void loadOfAnEmptyBufferIsRefused() {
        Edges.refused("load()", Edges.ARGUMENT, BoundSearch::new, BoundSearch::load);
        Edges.refused("load()", Edges.ARGUMENT, () -> Edges.busyWith(""), BoundSearch::load);
    }

    @Edge(at = "Promise 2: load", says = "Throws IllegalArgumentException if the buffer is not"
            + " a complete row text (the buffer stays)")
    static void loadOfAnIncompleteRowIsRefused() {
        Edges.refused("load() of 5,", Edges.ARGUMENT, () -> Edges.busyWith("5,"),
                BoundSearch::load);
        BoundSearch x = Edges.typed("5,");
        Edges.due("load() throws", Edges.thrownBy(x, BoundSearch::load),
                "IllegalArgumentException");
        Edges.type(x, "6").load();
        Edges.due("the game, completed", Edges.game(x), "0 [5,6] 0 0");
    }

    @Edge(at = "Promise 2: load", says = "Throws IllegalArgumentException if the buffer is not"
            + " a complete row text (the buffer stays)")
    static void loadOfAnErrorIsRefused() {
        String[] texts = {"5;6", "5,,6", ",5", "05", "5,21", "5,0", "x", "5,6,x"};
        for (String text : texts) {
            Edges.refused("load() of " + text, Edges.ARGUMENT, () -> Edges.busyWith(text),
                    BoundSearch::load);
            BoundSearch x = Edges.typed(text);
            Edges.thrownBy(x, BoundSearch::load);
            Edges.due("clearText() after " + text, x.clearText(), text.length());
        }
    }

    @Edge(at = "Promise 2: load", says = "Throws IllegalArgumentException if the buffer is not"
            + " a complete row text (the buffer stays)")
    static void loadOfAFullBufferIsRefused() {
        Edges.refused("load() of 60 characters", Edges.ARGUMENT, Edges::busyAndFull,
                BoundSearch::load);
    }

    // ---- promise 3

    @Edge(at = "Promise 3: play", says = "move: 0 to 3")
    static void theLeastAndTheGreatestMoveArePlayed() {
        Edges.due("play(0)", Edges.row("3,9,1,2").play(0), 3);
        Edges.due("play(3)", Edges.row("3,9,1,2").play(3), 3);
    }

    @Edge(at = "Promise 3: play", says = "Throws IndexOutOfBoundsException if there is no such"
            + " move")
    static void otherMovesAreRefused() {
        int[] moves = {-1, 4, Edges.LEAST, Edges.GREATEST};
        for (int move : moves) {
            Edges.refused("play(" + move + ")", Edges.BOUNDS, Edges::busy, x -> x.play(move));
        }
    }

    @Edge(at = "Promise 3: play", says = "Throws IllegalStateException if it is not possible")
    static void impossibleMovesAreRefused() {
        Edges.refused("play(0)", Edges.STATE, () -> Edges.played("3,4", 3), x -> x.play(0));
        Edges.refused("play(1)", Edges.STATE, () -> Edges.played("3,4", 0), x -> x.play(1));
        Edges.refused("play(2)", Edges.STATE, () -> Edges.played("3,4", 1), x -> x.play(2));
        Edges.refused("play(3)", Edges.STATE, () -> Edges.played("3,4", 2), x -> x.play(3));
    }

    @Edge(at = "Promise 3: play", says = "Returns the number of coins that are taken.")
    static void theFewestAndTheMostCoinsOfAMove() {
        Edges.due("play(0)", Edges.row("1").play(0), 1);
        Edges.due("play(2)", Edges.row("1").play(2), 1);
        Edges.due("play(1)", Edges.row("20,20").play(1), 40);
        Edges.due("play(3)", Edges.row("20,20").play(3), 40);
    }

    // ---- promise 4

    @Edge(at = "Promise 4: playBest", says = "moves: 1 to 12")
    static void oneAndTwelveMovesAreAllowed() {
        Edges.due("playBest(1)", Edges.row(Edges.TWELVE).playBest(1), 1);
        Edges.due("playBest(12)", Edges.row("1").playBest(12), 1);
    }

    @Edge(at = "Promise 4: playBest", says = "Throws IllegalArgumentException if moves is out of"
            + " range")
    static void otherNumbersOfMovesAreRefused() {
        int[] numbers = {0, 13, -1, Edges.LEAST, Edges.GREATEST};
        for (int moves : numbers) {
            Edges.refused("playBest(" + moves + ")", Edges.ARGUMENT, Edges::busy,
                    x -> x.playBest(moves));
            Edges.refused("playBest(" + moves + ") of no piles", Edges.ARGUMENT,
                    BoundSearch::new, x -> x.playBest(moves));
        }
    }

    @Edge(at = "Promise 4: playBest", says = "Makes best moves, one after the other, at most so"
            + " many.")
    static void noMoreMovesThanSoMany() {
        String row = "17,3,9,7,5,19,9,2,6,5,18,18";
        for (int moves = 1; moves <= 12; moves++) {
            BoundSearch x = Edges.row(row);
            List<Integer> line = Edges.lineOf(x);
            int made = Math.min(moves, 10);
            Edges.due("playBest(" + moves + ")", x.playBest(moves), made);
            BoundSearch other = Edges.row(row);
            for (int move : line.subList(0, made)) {
                other.play(move);
            }
            Edges.due("the game after it", Edges.game(x), Edges.game(other));
        }
    }

    @Edge(at = "Promise 4: playBest", says = "Returns the number of moves that are made.")
    static void noMoveIsMadeWithoutPiles() {
        Edges.due("playBest(1) of a new game", new BoundSearch().playBest(1), 0);
        BoundSearch x = Edges.played("3,4", 1);
        Edges.due("playBest(12) at the end", x.playBest(12), 0);
        Edges.due("the game", Edges.game(x), "1 [] 7 0");
    }

    // ---- promises 5 to 8

    @Edge(at = "Promise 5: turn", says = "Returns the player who is to move, 0 or 1 (also if no"
            + " pile is left).")
    static void theTurnWithoutPiles() {
        Edges.due("turn() of a new game", new BoundSearch().turn(), 0);
        Edges.due("turn() after one move", Edges.played("3", 0).turn(), 1);
        Edges.due("turn() after two moves", Edges.played("3,4", 0, 0).turn(), 0);
        Edges.due("turn() after three moves", Edges.played("3,4,5", 0, 0, 0).turn(), 1);
        BoundSearch x = Edges.row("17,3,9,7,5,19,9,2,6,5,18,18");
        Edges.due("playBest(12)", x.playBest(12), 10);
        Edges.due("turn() after ten best moves", x.turn(), 0);
    }

    @Edge(at = "Promise 6: left", says = "Returns the number of piles that are left.")
    static void leftGoesFromTwelveToNone() {
        BoundSearch x = Edges.row(Edges.TWELVE);
        for (int left = 12; left >= 1; left--) {
            Edges.due("left()", x.left(), left);
            x.play(left % 2 == 0 ? 2 : 0);
        }
        Edges.due("left() at the end", x.left(), 0);
    }

    @Edge(at = "Promise 7: pile", says = "pile: 0 for the leftmost pile that is left, and so on")
    static void theFirstAndTheLastPile() {
        BoundSearch x = Edges.row(Edges.TWELVE);
        Edges.due("pile(0)", x.pile(0), 1);
        Edges.due("pile(11)", x.pile(11), 12);
        x.play(1);
        x.play(3);
        Edges.due("pile(0), later", x.pile(0), 3);
        Edges.due("pile(7), later", x.pile(7), 10);
        Edges.due("pile(0) of one", Edges.played("4,5,6", 0, 2).pile(0), 5);
    }

    @Edge(at = "Promise 7: pile", says = "Throws IndexOutOfBoundsException if there is no such"
            + " pile")
    static void otherPilesAreRefused() {
        refusedPiles("a new game", new BoundSearch(), -1, 0, 1, 11, 12);
        refusedPiles("twelve piles", Edges.row(Edges.TWELVE), -1, 12, 13);
        refusedPiles("eight piles", Edges.played(Edges.TWELVE, 1, 3), -2, -1, 8, 9, 11, 12);
        refusedPiles("the end", Edges.played("3,4", 1), -1, 0, 1);
        refusedPiles("far away", Edges.played("3,4,5", 0), Edges.LEAST, Edges.GREATEST,
                Edges.GREATEST - 1);
        Edges.refused("pile(-1)", Edges.BOUNDS, Edges::busy, x -> x.pile(-1));
        Edges.refused("pile(left)", Edges.BOUNDS, Edges::busy, x -> x.pile(x.left()));
    }

    private static void refusedPiles(String what, BoundSearch x, int... piles) {
        for (int pile : piles) {
            Edges.due("pile(" + pile + ") of " + what + " throws",
                    Edges.thrownBy(x, it -> it.pile(pile)), "IndexOutOfBoundsException");
        }
    }

    @Edge(at = "Promise 8: coins", says = "player: 0 or 1")
    static void theFewestAndTheMostCoinsOfAPlayer() {
        BoundSearch x = Edges.row(Edges.rowOf("20", 12));
        Edges.due("coins(0) at first", x.coins(0), 0);
        Edges.due("coins(1) at first", x.coins(1), 0);
        for (int move = 0; move < 8; move++) {
            x.play(move % 2 == 0 ? 1 : 0);
        }
        Edges.due("coins(0)", x.coins(0), 160);
        Edges.due("coins(1)", x.coins(1), 80);
    }

    @Edge(at = "Promise 8: coins", says = "Throws IndexOutOfBoundsException if there is no such"
            + " player")
    static void otherPlayersAreRefused() {
        int[] players = {-1, 2, Edges.LEAST, Edges.GREATEST};
        for (int player : players) {
            Edges.refused("coins(" + player + ")", Edges.BOUNDS, Edges::busy,
                    x -> x.coins(player));
        }
    }

    // ---- promises 9 to 13

    @Edge(at = "Promise 9: value", says = "Returns the value of the present position.")
    static void theValueIsThatOfThePlayerToMove() {
        // 9 is what player 0 gains by 3 + 9 before 1 + 2; then player 1 is to move
        Edges.due("value()", Edges.row("3,9,1,2").value(), 9);
        Edges.due("value() after play(1)", Edges.played("3,9,1,2", 1).value(), 3);
        Edges.due("value() after play(0)", Edges.played("3,9,1,2", 0).value(), 8);
        Edges.due("value() of one pile", Edges.played("3,9,1,2", 1, 0).value(), 2);
        Edges.due("value() of no pile", Edges.played("3,9,1,2", 1, 1).value(), 0);
    }

    @Edge(at = "Promise 9: value", says = "Returns the value of the present position.")
    static void theLimitOfNodesIsNotOneOfTheValue() {
        BoundSearch x = Edges.row("20,1,1,20,1,1,20,1,1,20,1,1");
        x.setLimit(1);
        Edges.due("value()", x.value(), 74);
    }

    @Edge(at = "Promise 10: resultOf", says = "move: 0 to 3")
    static void eachMoveHasAResult() {
        BoundSearch x = Edges.row("3,9,1,2");
        int[] results = {-5, 9, -9, -9};
        for (int move = 0; move < 4; move++) {
            Edges.due("resultOf(" + move + ")", x.resultOf(move), results[move]);
        }
    }

    @Edge(at = "Promise 10: resultOf", says = "Returns its result; NONE if it is not possible.")
    static void anImpossibleMoveHasNoResult() {
        int[] ofOne = {5, Edges.NONE, 5, Edges.NONE};
        BoundSearch one = Edges.row("5");
        BoundSearch end = Edges.played("5", 0);
        for (int move = 0; move < 4; move++) {
            Edges.due("resultOf(" + move + ") of one", one.resultOf(move), ofOne[move]);
            Edges.due("resultOf(" + move + ") at the end", end.resultOf(move), Edges.NONE);
        }
    }

    @Edge(at = "Promise 10: resultOf", says = "Throws IndexOutOfBoundsException if there is no"
            + " such move")
    static void otherMovesHaveNoResult() {
        int[] moves = {-1, 4, Edges.LEAST, Edges.GREATEST};
        for (int move : moves) {
            Edges.refused("resultOf(" + move + ")", Edges.BOUNDS, Edges::busy,
                    x -> x.resultOf(move));
            Edges.refused("resultOf(" + move + ") of no piles", Edges.BOUNDS, BoundSearch::new,
                    x -> x.resultOf(move));
        }
    }

    @Edge(at = "Promise 11: bestMove", says = "Returns the best move; NONE if no pile is left.")
    static void noBestMoveWithoutPiles() {
        Edges.due("bestMove() of a new game", new BoundSearch().bestMove(), Edges.NONE);
        Edges.due("bestMove() at the end", Edges.played("5,4", 0, 0).bestMove(), Edges.NONE);
        Edges.due("bestMove() of one pile", Edges.played("5,4", 0).bestMove(), 0);
    }

    @Edge(at = "Promise 12: line", says = "index: 0 for the first one")
    static void theFirstMoveOfTheLine() {
        Edges.due("line(0)", Edges.row("1,3,2").line(0), 3);
        Edges.due("line(1)", Edges.row("1,3,2").line(1), 0);
    }

    @Edge(at = "Promise 12: line", says = "Returns the move; NONE if the line has not so many.")
    static void noMoveBehindTheLine() {
        BoundSearch x = Edges.row("17,3,9,7,5,19,9,2,6,5,18,18");
        Edges.due("line(9)", x.line(9), 1);
        int[] behind = {10, 11, 12, 13, 100, Edges.GREATEST};
        for (int index : behind) {
            Edges.due("line(" + index + ")", x.line(index), Edges.NONE);
        }
        Edges.due("line(1) of one pile", Edges.row("4").line(1), Edges.NONE);
        Edges.due("line(0) of none", new BoundSearch().line(0), Edges.NONE);
        Edges.due("line(0) at the end", Edges.played("4", 0).line(0), Edges.NONE);
    }

    @Edge(at = "Promise 12: line", says = "Throws IndexOutOfBoundsException if index is negative")
    static void aNegativeIndexIsRefused() {
        int[] indexes = {-1, Edges.LEAST};
        for (int index : indexes) {
            Edges.refused("line(" + index + ")", Edges.BOUNDS, Edges::busy, x -> x.line(index));
            Edges.refused("line(" + index + ") of none", Edges.BOUNDS, BoundSearch::new,
                    x -> x.line(index));
        }
    }

    @Edge(at = "Promise 13: margin", says = "Returns the result of the best move minus the"
            + " greatest result of another possible move")
    static void theMarginToTheNextMove() {
        Edges.due("margin()", Edges.row("3,9,1,2").margin(), 14);
        // the results of two piles are -1, 7, 1, 7
        Edges.due("margin() of two", Edges.row("3,4").margin(), 0);
        // the results of 1, 3, 2 are -4, 2, -2, 4
        Edges.due("margin() of three", Edges.row("1,3,2").margin(), 2);
        // the results of 8,5,7,20,9,1,10 are -14, -12, -10, -12
        Edges.due("margin() below 0", Edges.row("8,5,7,20,9,1,10").margin(), 2);
        // the results of 4,9,20,17,1,13,4,7,15,1,1 are -24, -6, -24, -22
        Edges.due("a great margin() below 0",
                Edges.row("4,9,20,17,1,13,4,7,15,1,1").margin(), 16);
    }

    @Edge(at = "Promise 13: margin", says = "NONE if there are not two possible moves.")
    static void theMarginOfOnePileAndOfNone() {
        Edges.due("margin() of one pile", Edges.row("5").margin(), 0);
        Edges.due("margin() of a new game", new BoundSearch().margin(), Edges.NONE);
        Edges.due("margin() at the end", Edges.played("5,4", 3).margin(), Edges.NONE);
    }

    @Edge(at = "Exceptions", says = "value, resultOf, bestMove, line, margin the interface says:"
            + " ---- full search; nothing changes.")
    static void theFullSearchChangesNothing() {
        Edges.changesNothing("value()", Edges::busy, BoundSearch::value);
        Edges.changesNothing("resultOf(1)", Edges::busy, x -> x.resultOf(1));
        Edges.changesNothing("bestMove()", Edges::busy, BoundSearch::bestMove);
        Edges.changesNothing("line(2)", Edges::busy, x -> x.line(2));
        Edges.changesNothing("margin()", Edges::busy, BoundSearch::margin);
    }
}
