/** The edges of the search: the section "Search" of the document, and promises 14 to 28. */
final class SearchEdges {
    private static final String SEARCH = "Search";
    /** Its search with order 19 and full bounds fills the table. */
    private static final String FILLING = "3,4,16,19,1,20,19,11,15,12,1,1";
    /** Its search with order 0 and full bounds takes 5000 nodes. */
    private static final String AT_LIMIT = "15,13,2,8,8,8,14,7,16,4,5,9";
    /** Its search with order 0 and full bounds would take 5001 nodes. */
    private static final String BEYOND_LIMIT = "18,7,16,7,2,6,18,5,4,7,12,12";
    /** Its search with order 0 and full bounds would take 11795 nodes. */
    private static final String FAR_BEYOND = "4,2,12,13,1,16,7,18,13,16,13,2";

    private SearchEdges() {
    }

    /** A search without an order of its own: with order 0. */
    private static BoundSearch searched(String row, int depth, int lower, int upper) {
        return Edges.searched(row, 0, depth, lower, upper);
    }

    private static BoundSearch full(String row) {
        return searched(row, 12, -240, 241);
    }

    private static BoundSearch limited(String row, int limit, int depth) {
        BoundSearch x = Edges.row(row);
        x.setLimit(limit);
        x.search(depth, -240, 241);
        return x;
    }

    // ---- what holds at first

    @Edge(at = SEARCH, says = "There are an order of the four moves, at first 0, 1, 2, 3")
    static void theOrderAtFirst() {
        BoundSearch x = new BoundSearch();
        for (int place = 0; place < 4; place++) {
            Edges.due("order(" + place + ")", x.order(place), place);
        }
        Edges.due("setOrder(5)", x.setOrder(5), 0);
    }

    @Edge(at = SEARCH, says = "and a limit of nodes, at first 5000.")
    static void theLimitAtFirst() {
        Edges.due("setLimit(1)", new BoundSearch().setLimit(1), 5000);
        Edges.due("a search of 5000 nodes", Edges.numbers(full(AT_LIMIT)),
                "19 5000 1260 607 63");
        Edges.due("a search of 5001 nodes", Edges.numbers(full(BEYOND_LIMIT)),
                "-999 5001 1131 766 61");
    }

    @Edge(at = SEARCH, says = "it is used or not, at first it is used.")
    static void theTableIsUsedAtFirst() {
        Edges.due("entries()", full("5").entries(), 1);
        Edges.due("useTable(false)", new BoundSearch().useTable(false), true);
    }

    // ---- the table

    @Edge(at = SEARCH, says = "There is a table, which contains at most one entry for each"
            + " position")
    static void aPositionThatIsSearchedTwiceHasOneEntry() {
        // (0, 1) is searched with the depths 3 and 4
        BoundSearch x = Edges.searched("1,4,4", 17, 5, 4, 7);
        Edges.due("the numbers", Edges.numbers(x), "7 8 2 0 3");
        Edges.due("(0, 1)", Edges.entry(x, 0, 1), "3 1");
        Edges.due("(0, 2)", Edges.entry(x, 0, 2), "2 3");
        Edges.due("(0, 3)", Edges.entry(x, 0, 3), "2 7");
    }

    @Edge(at = SEARCH, says = "There is a table, which contains at most one entry for each"
            + " position")
    static void theTableFilled() {
        BoundSearch x = Edges.searched(FILLING, 19, 12, -240, 241);
        Edges.due("the numbers", Edges.numbers(x), "-10 2226 660 327 78");
        for (int first = 0; first < 12; first++) {
            for (int count = 1; count <= 12; count++) {
                Edges.due("an entry for (" + first + ", " + count + ")",
                        x.entryKind(first, count) > 0, first + count <= 12);
            }
        }
    }

    @Edge(at = SEARCH, says = "It is empty at the beginning of each search.")
    static void noHitOfTheSearchBefore() {
        BoundSearch x = full("3,9,1,2");
        Edges.due("the first time", Edges.numbers(x), "9 37 8 1 9");
        x.search(12, -240, 241);
        Edges.due("the second time", Edges.numbers(x), "9 37 8 1 9");
        x.useTable(false);
        x.useTable(true);
        x.search(12, -240, 241);
        Edges.due("the third time", Edges.numbers(x), "9 37 8 1 9");
    }

    @Edge(at = SEARCH, says = "It is empty at the beginning of each search.")
    static void noEntryOfTheSearchBefore() {
        BoundSearch x = Edges.searched(FILLING, 19, 12, -240, 241);
        x.search(1, -240, 241);
        Edges.due("entries() of depth 1", x.entries(), 1);
        x.search(12, -240, 241);
        x.search(0, -240, 241);
        Edges.due("entries() of depth 0", x.entries(), 0);
        Edges.due("(0, 12)", Edges.entry(x, 0, 12), "0 -999");
    }

    @Edge(at = SEARCH, says = "It is empty at the beginning of each search.")
    static void itIsEmptyForASearchWithoutItToo() {
        BoundSearch x = Edges.searched(FILLING, 19, 3, -240, 241);
        x.useTable(false);
        Edges.due("entries() before", x.entries() > 0, true);
        x.search(3, -240, 241);
        Edges.due("entries()", x.entries(), 0);
        Edges.due("(0, 12)", Edges.entry(x, 0, 12), "0 -999");
    }

    @Edge(at = SEARCH, says = "It is empty at the beginning of each search.")
    static void forecastsDoNotMeetEachOther() {
        BoundSearch x = Edges.row("3,9,1,2");
        Edges.due("nodesWith(0)", x.nodesWith(0), 37);
        Edges.due("nodesWith(0) again", x.nodesWith(0), 37);
        x.search(12, -240, 241);
        Edges.due("nodesWith(0) after a search", x.nodesWith(0), 37);
    }

    @Edge(at = SEARCH, says = "A search of the game searches the present position.")
    static void theLastPositionsAreSearched() {
        BoundSearch x = Edges.played("3,9,1,2", 1, 0);
        x.search(12, -240, 241);
        Edges.due("one pile", Edges.numbers(x), "2 3 0 0 1");
        Edges.due("(3, 1)", Edges.entry(x, 3, 1), "1 2");
        x.play(2);
        x.search(12, -240, 241);
        Edges.due("no pile", Edges.numbers(x), "0 1 0 0 0");
    }

    @Edge(at = SEARCH, says = "Its numbers of nodes, cuts and hits start at 0.")
    static void theNumbersStartAgain() {
        BoundSearch x = Edges.searched("4,1,1", 12, 3, -3, -1);
        Edges.due("a search", Edges.numbers(x), "2 14 4 1 6");
        x.search(3, -3, -1);
        Edges.due("the same one", Edges.numbers(x), "2 14 4 1 6");
        x.search(0, -3, -1);
        Edges.due("one of depth 0", Edges.numbers(x), "0 1 0 0 0");
        x.setLimit(3);
        x.search(3, -3, -1);
        Edges.due("one that is stopped", Edges.numbers(x), "-999 4 0 0 0");
        x.search(0, -3, -1);
        Edges.due("one after it", Edges.numbers(x), "0 1 0 0 0");
    }

    // ---- step 1

    @Edge(at = SEARCH, says = "The number of nodes increases by 1. If it is greater than the limit"
            + " then, the whole search is stopped.")
    static void asManyNodesAsTheLimit() {
        Edges.due("8 nodes of 8", Edges.numbers(limited("1,1", 8, 12)), "2 8 1 0 3");
        Edges.due("1 node of 1", Edges.numbers(limited("1,1", 1, 0)), "0 1 0 0 0");
        Edges.due("5 nodes of 5", Edges.numbers(limited("1,1", 5, 1)), "2 5 0 0 1");
    }

    @Edge(at = SEARCH, says = "The number of nodes increases by 1. If it is greater than the limit"
            + " then, the whole search is stopped.")
    static void oneNodeMoreThanTheLimit() {
        Edges.due("8 nodes of 7", Edges.numbers(limited("1,1", 7, 12)), "-999 8 1 0 2");
        Edges.due("2 nodes of 1", Edges.numbers(limited("1,1", 1, 1)), "-999 2 0 0 0");
        Edges.due("5 nodes of 4", Edges.numbers(limited("1,1", 4, 1)), "-999 5 0 0 0");
    }

    @Edge(at = SEARCH, says = "the whole search is stopped.")
    static void aStopLeavesWhatIsFinished() {
        // at node 7 the search is inside of (0, 1), which is not finished, nor is its cut
        BoundSearch x = limited("1,1", 6, 12);
        Edges.due("stopped at node 7", Edges.numbers(x), "-999 7 0 0 1");
        Edges.due("(1, 1)", Edges.entry(x, 1, 1), "1 1");
        Edges.due("(0, 1)", Edges.entry(x, 0, 1), "0 -999");
        Edges.due("(0, 2)", Edges.entry(x, 0, 2), "0 -999");
    }

    // ---- step 2

    @Edge(at = SEARCH, says = "If no pile is left, or d is 0, the result is 0.")
    static void theResultWithoutPiles() {
        int[] depths = {0, 1, 12};
        for (int depth : depths) {
            BoundSearch x = new BoundSearch();
            Edges.due("search of a new game", x.search(depth, -240, 241), 0);
            Edges.due("its numbers", Edges.numbers(x), "0 1 0 0 0");
        }
        BoundSearch end = Edges.played("5,6", 1);
        Edges.due("above the bounds", end.search(12, -7, -6), 0);
        Edges.due("below the bounds", end.search(12, 6, 7), 0);
        Edges.due("its numbers", Edges.numbers(end), "0 1 0 0 0");
    }

    @Edge(at = SEARCH, says = "If no pile is left, or d is 0, the result is 0.")
    static void theResultOfDepthZero() {
        BoundSearch x = Edges.row("3,9,1,2");
        Edges.due("search(0, -240, 241)", x.search(0, -240, 241), 0);
        Edges.due("its numbers", Edges.numbers(x), "0 1 0 0 0");
        Edges.due("above the bounds", x.search(0, -7, -6), 0);
        Edges.due("below the bounds", x.search(0, 6, 7), 0);
        // the moves take 3, 12, 2 and 3, and nothing is known of what follows
        Edges.due("search(1, -240, 241)", x.search(1, -240, 241), 12);
        Edges.due("its numbers", Edges.numbers(x), "12 5 0 0 1");
    }

    // ---- step 3

    @Edge(at = SEARCH, says = "If the table is used and has an entry for the position")
    static void noHitIfTheTableIsNotUsed() {
        BoundSearch x = Edges.row("4,1,1");
        x.setOrder(12);
        x.useTable(false);
        x.search(3, -3, -1);
        // node 10 is searched again, and takes two nodes more
        Edges.due("the numbers", Edges.numbers(x), "2 15 5 0 0");
    }

    @Edge(at = SEARCH, says = "has an entry for the position with the depth d")
    static void noHitOfAnotherDepth() {
        // (0, 1), an upper entry of depth 3 and value 1, is met with the depth 4 and a = 1
        Edges.due("of a lesser depth", Edges.numbers(Edges.searched("1,4,4", 17, 5, 4, 7)),
                "7 8 2 0 3");
        // (2, 2), a lower entry of depth 3 and value 5, is met with the depth 2 and b = 3
        Edges.due("of a greater depth", Edges.numbers(Edges.searched("4,3,1,4", 7, 4, 2, 4)),
                "2 17 6 0 8");
    }

    @Edge(at = SEARCH, says = "if the entry is exact")
    static void anExactEntryIsAHitWithAnyBounds() {
        // (1, 1), an exact 1, is met with a = -6, b = -4
        Edges.due("above the bounds", Edges.numbers(Edges.searched("4,1,1", 12, 3, -3, -1)),
                "2 14 4 1 6");
        // (1, 1), an exact 2, is met with a = 2, b = 5
        Edges.due("at the lower bound", Edges.numbers(Edges.searched("4,2,3", 3, 4, 1, 4)),
                "3 15 4 1 6");
        // (1, 1), an exact 1, is met with a = -1, b = 2
        Edges.due("between the bounds", Edges.numbers(Edges.searched("4,1,4", 3, 4, -1, 2)),
                "1 18 5 1 6");
    }

    @Edge(at = SEARCH, says = "or if it is a lower one and its value is at least b")
    static void aLowerEntryAtTheUpperBoundIsAHit() {
        // (1, 1), a lower 3, is met with b = 3
        Edges.due("value b", Edges.numbers(Edges.searched("3,3,4", 12, 3, -1, 2)),
                "2 15 6 1 6");
    }

    @Edge(at = SEARCH, says = "or if it is a lower one and its value is at least b")
    static void aLowerEntryBelowTheUpperBoundIsNone() {
        // (1, 1), a lower 3, is met with b = 4
        Edges.due("value b - 1", Edges.numbers(Edges.searched("4,3,1", 2, 5, 0, 1)),
                "6 14 5 0 5");
    }

    @Edge(at = SEARCH, says = "or if it is an upper one and its value is at most a")
    static void anUpperEntryAtTheLowerBoundIsAHit() {
        // (1, 1), an upper 1, is met with a = 1
        Edges.due("value a", Edges.numbers(Edges.searched("4,1,3", 12, 5, 2, 5)),
                "2 13 5 1 6");
    }

    @Edge(at = SEARCH, says = "or if it is an upper one and its value is at most a")
    static void anUpperEntryAboveTheLowerBoundIsNone() {
        // (1, 1), an upper 1, is met with a = 0
        Edges.due("value a + 1", Edges.numbers(Edges.searched("1,1,4", 3, 5, 3, 4)),
                "4 16 6 0 6");
    }

    @Edge(at = SEARCH, says = "then the number of hits increases by 1, and the result is the value"
            + " of the entry.")
    static void aHitTellsTheValueOfTheEntry() {
        // (0, 1), an upper 2, is met in (0, 2) with depth 2: 4 - 2 is a cut, and its value
        BoundSearch x = Edges.searched("2,4,1,1", 17, 3, 0, 2);
        Edges.due("the numbers", Edges.numbers(x), "4 16 6 1 7");
        Edges.due("(0, 2)", Edges.entry(x, 0, 2), "2 2");
    }

    // ---- step 4

    @Edge(at = SEARCH, says = "Otherwise the possible moves are tried in their order.")
    static void impossibleMovesAreNotTried() {
        // order 10 is 1, 3, 0, 2; of one pile 1 and 3 are not possible
        Edges.due("one pile", Edges.numbers(Edges.searched("5", 10, 12, -240, 241)),
                "5 3 0 0 1");
    }

    @Edge(at = SEARCH, says = "Otherwise the possible moves are tried in their order.")
    static void theFirstMoveOfTheOrderIsTriedFirst() {
        // the moves of 1,20 take 1, 21, 20 and 21 at depth 1
        Edges.due("0, 1, 2, 3", Edges.numbers(Edges.searched("1,20", 0, 1, 0, 21)),
                "21 3 1 0 1");
        Edges.due("1, 0, 2, 3", Edges.numbers(Edges.searched("1,20", 6, 1, 0, 21)),
                "21 2 1 0 1");
        Edges.due("0, 2, 1, 3", Edges.numbers(Edges.searched("1,20", 2, 1, 0, 21)),
                "21 4 1 0 1");
        Edges.due("3, 2, 1, 0", Edges.numbers(Edges.searched("1,20", 23, 1, 0, 21)),
                "21 2 1 0 1");
    }

    @Edge(at = SEARCH, says = "with the depth d - 1")
    static void eachMoveTakesOneFromTheDepth() {
        // with depth 2 the pile that is left counts, with depth 1 it does not
        Edges.due("depth 1", Edges.row("1,20,1").search(1, -240, 241), 21);
        Edges.due("depth 2", Edges.row("1,20,1").search(2, -240, 241), 20);
        // with depth 3 the last of three single piles counts, too
        Edges.due("depth 2", Edges.numbers(searched("1,20,1", 2, -240, 241)), "20 13 2 0 5");
        Edges.due("depth 3", Edges.numbers(searched("1,20,1", 3, -240, 241)), "20 18 3 0 6");
    }

    @Edge(at = SEARCH, says = "and the upper bound g - (the greater one of a and the greatest"
            + " result of a move so far)")
    static void theUpperBoundOfTheFirstMoveComesFromA() {
        // the first move of 1,1 leaves a pile of 1, searched with the upper bound 1 - a
        Edges.due("1 - 1", Edges.numbers(searched("1,1", 12, 1, 241)), "2 7 2 0 3");
        Edges.due("1 - 0", Edges.numbers(searched("1,1", 12, 0, 241)), "2 7 2 0 3");
        Edges.due("1 - -1", Edges.numbers(searched("1,1", 12, -1, 241)), "2 8 1 0 3");
    }

    @Edge(at = SEARCH, says = "and the upper bound g - (the greater one of a and the greatest"
            + " result of a move so far)")
    static void theUpperBoundOfALaterMoveComesFromTheGreatestResult() {
        // move 2 of 1,1 leaves a pile of 1, searched with the upper bound 1 - 2, and cut
        BoundSearch x = full("1,1");
        Edges.due("the numbers", Edges.numbers(x), "2 8 1 0 3");
        Edges.due("(0, 1)", Edges.entry(x, 0, 1), "2 1");
        Edges.due("(1, 1)", Edges.entry(x, 1, 1), "1 1");
    }

    @Edge(at = SEARCH, says = "the lower bound g - b")
    static void theLowerBoundComesFromB() {
        // the first move of 2,1 leaves a pile of 1, searched with the lower bound 2 - b
        Edges.due("2 - 1, which is at least 1", Edges.entry(searched("2,1", 12, -9, 1), 1, 1),
                "3 1");
        Edges.due("2 - 2, which is less", Edges.entry(searched("2,1", 12, -9, 2), 1, 1), "1 1");
    }

    @Edge(at = SEARCH, says = "If it is at least b, the number of cuts increases by 1, and no"
            + " further move is tried.")
    static void aResultAtTheUpperBoundIsCut() {
        Edges.due("b is the result", Edges.numbers(searched("5", 12, 0, 5)), "5 2 1 0 1");
        Edges.due("b is less", Edges.numbers(searched("5", 12, 0, 4)), "5 2 1 0 1");
        Edges.due("b is one more", Edges.numbers(searched("5", 12, 0, 6)), "5 3 0 0 1");
    }

    @Edge(at = SEARCH, says = "If it is at least b, the number of cuts increases by 1, and no"
            + " further move is tried.")
    static void aCutOfTheLastMoveCountsToo() {
        // the moves of 1,1,9,9 take 1, 2, 9 and 18 at depth 1
        Edges.due("b is 18", Edges.numbers(searched("1,1,9,9", 1, 3, 18)), "18 5 1 0 1");
        Edges.due("b is 19", Edges.numbers(searched("1,1,9,9", 1, 3, 19)), "18 5 0 0 1");
        Edges.due("b is 9", Edges.numbers(searched("1,1,9,9", 1, 3, 9)), "9 4 1 0 1");
    }

    // ---- step 5

    @Edge(at = SEARCH, says = "The greatest result of a move is the result.")
    static void theResultMayLieOutsideOfTheBounds() {
        Edges.due("below a", Edges.row("5").search(1, 240, 241), 5);
        Edges.due("above b", Edges.row("5").search(1, -240, -239), 5);
        Edges.due("the greatest first", Edges.row("9,9,1,1").search(1, -240, 241), 18);
        Edges.due("a cut ends at less", Edges.row("1,1,9,9").search(1, 3, 9), 9);
        // the value is 9; what is known of it at such bounds is that it is not more than 13
        Edges.due("far below a", Edges.numbers(searched("3,9,1,2", 12, 200, 201)),
                "13 24 7 1 9");
    }

    @Edge(at = SEARCH, says = "the entry is a lower one if the value is at least b")
    static void theEntryAtTheUpperBound() {
        Edges.due("b is the value", Edges.entry(searched("5", 12, 0, 5), 0, 1), "2 5");
        Edges.due("b is less", Edges.entry(searched("5", 12, 0, 4), 0, 1), "2 5");
        Edges.due("b is one more", Edges.entry(searched("5", 12, 0, 6), 0, 1), "1 5");
    }

    @Edge(at = SEARCH, says = "an upper one if it is at most a")
    static void theEntryAtTheLowerBound() {
        Edges.due("a is the value", Edges.entry(searched("5", 12, 5, 9), 0, 1), "3 5");
        Edges.due("a is more", Edges.entry(searched("5", 12, 6, 9), 0, 1), "3 5");
        Edges.due("a is one less", Edges.entry(searched("5", 12, 4, 9), 0, 1), "1 5");
    }

    @Edge(at = SEARCH, says = "and otherwise exact.")
    static void theEntryBetweenNarrowBounds() {
        Edges.due("one between", Edges.entry(searched("5", 12, 4, 6), 0, 1), "1 5");
        Edges.due("bounds below", Edges.entry(searched("5", 12, 4, 5), 0, 1), "2 5");
        Edges.due("bounds above", Edges.entry(searched("5", 12, 5, 6), 0, 1), "3 5");
    }

    @Edge(at = SEARCH, says = "If the table is used, it becomes the value of the entry for the"
            + " position")
    static void noEntryIfTheTableIsNotUsed() {
        BoundSearch x = Edges.row("5");
        x.useTable(false);
        x.search(12, -240, 241);
        Edges.due("the numbers", Edges.numbers(x), "5 3 0 0 0");
        Edges.due("(0, 1)", Edges.entry(x, 0, 1), "0 -999");
    }

    @Edge(at = SEARCH, says = "with the depth d, in place of an older one")
    static void anEntryTakesThePlaceOfOneOfALesserDepth() {
        // (0, 2) is a lower 4 with the depth 1, and then a lower 2 with the depth 2
        Edges.due("(0, 2)", Edges.entry(Edges.searched("2,4,1,1", 17, 3, 0, 2), 0, 2), "2 2");
        // (2, 1) is a lower 4 with the depth 2, and then an upper one with the depth 3
        Edges.due("(2, 1)", Edges.entry(Edges.searched("1,4,4", 0, 4, -6, -1), 2, 1), "3 4");
    }

    @Edge(at = SEARCH, says = "with the depth d, in place of an older one")
    static void anEntryTakesThePlaceOfOneOfAGreaterDepth() {
        // (0, 2) is a lower 5 with the depth 2, and then a lower 3 with the depth 1
        BoundSearch x = Edges.searched("3,2,2,4", 5, 3, 1, 2);
        Edges.due("the numbers", Edges.numbers(x), "1 25 10 0 10");
        Edges.due("(0, 2)", Edges.entry(x, 0, 2), "2 3");
    }

    @Edge(at = SEARCH, says = "with the depth d, in place of an older one")
    static void anEntryTakesThePlaceOfOneOfTheSameDepth() {
        // (1, 2) is a lower 1, and then a lower 4, both with the depth 1
        BoundSearch x = Edges.searched("4,1,4,3", 3, 3, -2, 1);
        Edges.due("the numbers", Edges.numbers(x), "2 19 8 0 9");
        Edges.due("(1, 2)", Edges.entry(x, 1, 2), "2 4");
        // (1, 1) is an upper 1, and then a lower 1, both with the depth 3
        Edges.due("(1, 1)", Edges.entry(Edges.searched("1,1,4", 3, 5, 3, 4), 1, 1), "2 1");
    }

    // ---- promise 14

    @Edge(at = "Promise 14: search", says = "depth: 0 to 12")
    static void theLeastAndTheGreatestDepth() {
        Edges.due("search(0, ..)", Edges.row("5").search(0, -240, 241), 0);
        Edges.due("search(12, ..)", Edges.row("5").search(12, -240, 241), 5);
        // twelve single piles can be taken one by one: that takes all of the depth
        String row = "6,6,18,14,6,11,4,1,16,6,8,10";
        Edges.due("nodes of depth 12", Edges.searched(row, 14, 12, -240, 241).nodes(), 3921);
        Edges.due("nodes of depth 11", Edges.searched(row, 14, 11, -240, 241).nodes(), 3854);
    }

    @Edge(at = "Promise 14: search", says = "depth: 0 to 12")
    static void otherDepthsAreRefused() {
        int[] depths = {-1, 13, Edges.LEAST, Edges.GREATEST};
        for (int depth : depths) {
            Edges.refused("search(" + depth + ", 0, 1)", Edges.ARGUMENT, Edges::busy,
                    x -> x.search(depth, 0, 1));
        }
    }

    @Edge(at = "Promise 14: search", says = "lower: -240 to 240, the lower bound")
    static void theLeastAndTheGreatestLowerBound() {
        Edges.due("search(12, -240, 1)", Edges.row("5").search(12, -240, 1), 5);
        Edges.due("search(12, 240, 241)", Edges.row("5").search(12, 240, 241), 5);
    }

    @Edge(at = "Promise 14: search", says = "lower: -240 to 240, the lower bound")
    static void otherLowerBoundsAreRefused() {
        int[] bounds = {-241, 241, Edges.LEAST, Edges.GREATEST};
        for (int lower : bounds) {
            Edges.refused("search(1, " + lower + ", 241)", Edges.ARGUMENT, Edges::busy,
                    x -> x.search(1, lower, 241));
            Edges.refused("search(1, " + lower + ", .. + 1)", Edges.ARGUMENT, Edges::busy,
                    x -> x.search(1, lower, lower + 1));
        }
    }

    @Edge(at = "Promise 14: search", says = "upper: lower + 1 to 241, the upper bound")
    static void theLeastAndTheGreatestUpperBound() {
        Edges.due("search(12, -240, -239)", Edges.row("5").search(12, -240, -239), 5);
        Edges.due("search(12, 0, 1)", Edges.row("5").search(12, 0, 1), 5);
        Edges.due("search(12, 0, 241)", Edges.row("5").search(12, 0, 241), 5);
        Edges.due("search(12, -240, 241)", Edges.row("5").search(12, -240, 241), 5);
    }

    @Edge(at = "Promise 14: search", says = "upper: lower + 1 to 241, the upper bound")
    static void otherUpperBoundsAreRefused() {
        int[] bounds = {5, 4, -6, 242, Edges.LEAST, Edges.GREATEST};
        for (int upper : bounds) {
            Edges.refused("search(1, 5, " + upper + ")", Edges.ARGUMENT, Edges::busy,
                    x -> x.search(1, 5, upper));
        }
        Edges.refused("search(1, 240, 240)", Edges.ARGUMENT, Edges::busy,
                x -> x.search(1, 240, 240));
        Edges.refused("search(1, 240, 242)", Edges.ARGUMENT, Edges::busy,
                x -> x.search(1, 240, 242));
        Edges.refused("search(1, -240, -240)", Edges.ARGUMENT, Edges::busy,
                x -> x.search(1, -240, -240));
    }

    @Edge(at = "Promise 14: search", says = "Throws IllegalArgumentException if an argument is out"
            + " of range")
    static void aLowerBoundWhoseNextNumberWrapsAroundIsRefused() {
        Edges.refused("search(1, greatest, least)", Edges.ARGUMENT, Edges::busy,
                x -> x.search(1, Edges.GREATEST, Edges.LEAST));
        Edges.refused("search(1, greatest, 0)", Edges.ARGUMENT, Edges::busy,
                x -> x.search(1, Edges.GREATEST, 0));
        Edges.refused("search(1, least, greatest)", Edges.ARGUMENT, Edges::busy,
                x -> x.search(1, Edges.LEAST, Edges.GREATEST));
    }

    @Edge(at = "Promise 14: search", says = "Throws IllegalArgumentException if an argument is out"
            + " of range")
    static void aRefusedSearchWithoutPilesIsRefusedToo() {
        Edges.refused("search(13, 0, 1)", Edges.ARGUMENT, BoundSearch::new,
                x -> x.search(13, 0, 1));
        Edges.refused("search(0, 0, 0)", Edges.ARGUMENT, BoundSearch::new,
                x -> x.search(0, 0, 0));
    }

    @Edge(at = "Promise 14: search", says = "The numbers of nodes, cuts and hits, and the entries"
            + " of the table stay until the next search.")
    static void theNumbersStayUntilTheNextSearch() {
        BoundSearch x = Edges.searched("4,1,1", 12, 3, -3, -1);
        String stays = "2 14 4 1 6 / 2 4 / 2 5 / 2 2 / 1 1 / 3 2 / 2 1";
        Edges.due("at once", table(x), stays);
        x.useTable(false);
        x.setOrder(3);
        x.setLimit(2);
        x.nodesWith(23);
        x.bestOrder();
        Edges.thrownBy(x, it -> it.search(13, 0, 1));
        Edges.due("after settings, forecasts and a refused search", table(x), stays);
        x.play(0);
        x.playBest(12);
        Edges.due("after moves", table(x), stays);
        Edges.type(x, "7,7").load();
        x.clearText();
        Edges.due("after load()", table(x), stays);
        x.search(1, -240, 241);
        Edges.due("after the next search, stopped", Edges.numbers(x), "-999 3 0 0 0");
    }

    private static String table(BoundSearch x) {
        return Edges.numbers(x) + " / " + Edges.entry(x, 0, 1) + " / " + Edges.entry(x, 0, 2)
                + " / " + Edges.entry(x, 0, 3) + " / " + Edges.entry(x, 1, 1)
                + " / " + Edges.entry(x, 1, 2) + " / " + Edges.entry(x, 2, 1);
    }

    @Edge(at = "Promise 14: search", says = "Returns the result; NONE if the search is stopped.")
    static void aSearchThatIsStoppedHasNoResult() {
        BoundSearch x = Edges.row("3,9,1,2");
        x.setLimit(37);
        Edges.due("37 nodes of 37", x.search(12, -240, 241), 9);
        x.setLimit(36);
        Edges.due("37 nodes of 36", x.search(12, -240, 241), Edges.NONE);
        x.setLimit(1);
        Edges.due("depth 0", x.search(0, -240, 241), 0);
        Edges.due("depth 1", x.search(1, -240, 241), Edges.NONE);
    }

    // ---- promises 15 to 19

    @Edge(at = "Promise 15: result", says = "Returns the result of the last search; NONE if it was"
            + " stopped, or there was none.")
    static void theResultOfNoSearchAndOfOneThatWasStopped() {
        BoundSearch x = Edges.row("3,9,1,2");
        Edges.due("without a search", x.result(), Edges.NONE);
        x.nodesWith(0);
        Edges.due("after a forecast", x.result(), Edges.NONE);
        x.search(12, -240, 241);
        Edges.due("after a search", x.result(), 9);
        x.search(0, -240, 241);
        Edges.due("after a search of depth 0", x.result(), 0);
        x.setLimit(36);
        x.search(12, -240, 241);
        Edges.due("after one that was stopped", x.result(), Edges.NONE);
        x.undo();
        Edges.due("after undo()", x.result(), 0);
    }

    @Edge(at = "Promise 16: nodes", says = "(one more than the limit if it was stopped)")
    static void theNodesOfASearchThatWasStopped() {
        Edges.due("the least limit", limited("3,9,1,2", 1, 12).nodes(), 2);
        Edges.due("a limit of 36", limited("3,9,1,2", 36, 12).nodes(), 37);
        Edges.due("the greatest limit", full(FAR_BEYOND).nodes(), 5001);
    }

    @Edge(at = "Promise 16: nodes", says = "Returns the number of nodes of the last search")
    static void theFewestNodes() {
        Edges.due("without a search", Edges.row("3,9,1,2").nodes(), 0);
        Edges.due("depth 0", searched("3,9,1,2", 0, 0, 1).nodes(), 1);
        Edges.due("the greatest limit, just kept", full(AT_LIMIT).nodes(), 5000);
    }

    @Edge(at = "Promise 17: cuts", says = "Returns the number of cuts of the last search.")
    static void noCutAndSomeCuts() {
        Edges.due("without a search", Edges.row("5").cuts(), 0);
        Edges.due("none", searched("5", 12, -240, 241).cuts(), 0);
        Edges.due("one", searched("5", 12, -240, 5).cuts(), 1);
        Edges.due("many", full(AT_LIMIT).cuts(), 1260);
    }

    @Edge(at = "Promise 18: hits", says = "Returns the number of hits of the last search.")
    static void noHitAndSomeHits() {
        Edges.due("without a search", Edges.row("3,9,1,2").hits(), 0);
        Edges.due("none", searched("3,9,1,2", 1, -240, 241).hits(), 0);
        Edges.due("one", full("3,9,1,2").hits(), 1);
        Edges.due("many", full(AT_LIMIT).hits(), 607);
    }

    @Edge(at = "Promise 19: entries", says = "Returns the number of entries in the table.")
    static void theEmptyAndTheFullTable() {
        Edges.due("without a search", Edges.row(FILLING).entries(), 0);
        Edges.due("without piles", searchedWithoutPiles().entries(), 0);
        Edges.due("one pile", full("5").entries(), 1);
        Edges.due("twelve piles", Edges.searched(FILLING, 19, 12, -240, 241).entries(), 78);
    }

    private static BoundSearch searchedWithoutPiles() {
        BoundSearch x = new BoundSearch();
        x.search(12, -240, 241);
        return x;
    }

    // ---- promises 20 and 21

    @Edge(at = "Promise 20: entryKind", says = "first: 0 to 11, the number of the leftmost pile of"
            + " the position in the whole row")
    static void theKindsOfTheFirstAndTheLastPile() {
        BoundSearch x = Edges.searched(FILLING, 19, 12, -240, 241);
        Edges.due("entryKind(0, 1)", x.entryKind(0, 1), 2);
        Edges.due("entryKind(11, 1)", x.entryKind(11, 1) > 0, true);
        BoundSearch last = Edges.played(Edges.TWELVE, 1, 1, 1, 1, 1, 0);
        last.search(12, -240, 241);
        Edges.due("entries()", last.entries(), 1);
        Edges.due("the only one", Edges.entry(last, 11, 1), "1 12");
    }

    @Edge(at = "Promise 20: entryKind", says = "count: 1 to 12, the number of its piles")
    static void theKindsOfOneAndOfTwelvePiles() {
        BoundSearch x = Edges.searched(FILLING, 19, 12, -240, 241);
        Edges.due("entryKind(0, 12)", x.entryKind(0, 12), 1);
        Edges.due("entryKind(0, 1)", x.entryKind(0, 1), 2);
        Edges.due("entryKind(0, 2)", x.entryKind(0, 2), 3);
        Edges.due("entryKind(1, 12)", x.entryKind(1, 12), 0);
        Edges.due("entryKind(11, 2)", x.entryKind(11, 2), 0);
        Edges.due("entryKind(11, 12)", x.entryKind(11, 12), 0);
    }

    @Edge(at = "Promise 20: entryKind", says = "Returns 0 if there is no entry, 1 exact, 2 a lower"
            + " one, 3 an upper one.")
    static void eachKind() {
        Edges.due("no search", Edges.row("5").entryKind(0, 1), 0);
        Edges.due("exact", searched("5", 1, -240, 241).entryKind(0, 1), 1);
        Edges.due("a lower one", searched("5", 1, -240, -239).entryKind(0, 1), 2);
        Edges.due("an upper one", searched("5", 1, 240, 241).entryKind(0, 1), 3);
    }

    @Edge(at = "Promise 20: entryKind", says = "Throws IndexOutOfBoundsException if first or count"
            + " is out of range")
    static void otherKindsAreRefused() {
        int[] firsts = {-1, 12, Edges.LEAST, Edges.GREATEST};
        int[] counts = {0, 13, -1, Edges.LEAST, Edges.GREATEST};
        for (int first : firsts) {
            Edges.refused("entryKind(" + first + ", 1)", Edges.BOUNDS, Edges::busy,
                    x -> x.entryKind(first, 1));
            for (int count : counts) {
                Edges.due("entryKind(" + first + ", " + count + ") throws",
                        Edges.thrownBy(Edges.row("5"), x -> x.entryKind(first, count)),
                        "IndexOutOfBoundsException");
            }
        }
        for (int count : counts) {
            Edges.refused("entryKind(0, " + count + ")", Edges.BOUNDS, Edges::busy,
                    x -> x.entryKind(0, count));
            Edges.refused("entryKind(11, " + count + ")", Edges.BOUNDS, Edges::busy,
                    x -> x.entryKind(11, count));
        }
    }

    @Edge(at = "Promise 21: entryValue", says = "first: 0 to 11, the number of the leftmost pile of"
            + " the position in the whole row")
    static void theValuesOfTheFirstAndTheLastPile() {
        BoundSearch x = Edges.searched(FILLING, 19, 12, -240, 241);
        Edges.due("entryValue(0, 1)", x.entryValue(0, 1), 3);
        Edges.due("entryValue(11, 1)", x.entryValue(11, 1), 1);
    }

    @Edge(at = "Promise 21: entryValue", says = "count: 1 to 12, the number of its piles")
    static void theValuesOfOneAndOfTwelvePiles() {
        BoundSearch x = Edges.searched(FILLING, 19, 12, -240, 241);
        Edges.due("entryValue(0, 2)", x.entryValue(0, 2), 7);
        Edges.due("entryValue(0, 12)", x.entryValue(0, 12), -10);
    }

    @Edge(at = "Promise 21: entryValue", says = "Returns its value; NONE if there is no entry.")
    static void noValueWithoutAnEntry() {
        Edges.due("no search", Edges.row("5").entryValue(0, 1), Edges.NONE);
        BoundSearch x = full("1,1,1,1");
        Edges.due("a value of 0", Edges.entry(x, 0, 4), "1 0");
        Edges.due("beyond the row", Edges.entry(x, 1, 4), "0 -999");
        Edges.due("entryValue(11, 12)", x.entryValue(11, 12), Edges.NONE);
        Edges.due("a value below 0", Edges.entry(full("2,12,20,12,1"), 0, 5), "1 -17");
        x.search(0, -240, 241);
        Edges.due("after a search of depth 0", x.entryValue(0, 4), Edges.NONE);
    }

    @Edge(at = "Promise 21: entryValue", says = "Throws IndexOutOfBoundsException if first or count"
            + " is out of range")
    static void otherValuesAreRefused() {
        int[] firsts = {-1, 12, Edges.LEAST, Edges.GREATEST};
        int[] counts = {0, 13, -1, Edges.LEAST, Edges.GREATEST};
        for (int first : firsts) {
            Edges.refused("entryValue(" + first + ", 1)", Edges.BOUNDS, Edges::busy,
                    x -> x.entryValue(first, 1));
            for (int count : counts) {
                Edges.due("entryValue(" + first + ", " + count + ") throws",
                        Edges.thrownBy(Edges.row("5"), x -> x.entryValue(first, count)),
                        "IndexOutOfBoundsException");
            }
        }
        for (int count : counts) {
            Edges.refused("entryValue(0, " + count + ")", Edges.BOUNDS, Edges::busy,
                    x -> x.entryValue(0, count));
            Edges.refused("entryValue(11, " + count + ")", Edges.BOUNDS, Edges::busy,
                    x -> x.entryValue(11, count));
        }
    }

    // ---- promise 22

    @Edge(at = "Promise 22: hitShare", says = "0.0 if there was no search.")
    static void noShareWithoutASearch() {
        BoundSearch x = Edges.row("4,1,1");
        Edges.due("hitShare()", x.hitShare(), 0.0);
        x.nodesWith(0);
        Edges.due("hitShare() after a forecast", x.hitShare(), 0.0);
        x.setOrder(12);
        x.search(3, -3, -1);
        x.undo();
        Edges.due("hitShare() after undo()", x.hitShare(), 0.0);
    }

    @Edge(at = "Promise 22: hitShare", says = "Returns the number of hits of the last search, as a"
            + " double, divided by its number of nodes, as a double")
    static void theShareIsADouble() {
        Edges.due("none", searched("5", 0, 0, 1).hitShare(), 0.0);
        Edges.due("one of 14", Edges.searched("4,1,1", 12, 3, -3, -1).hitShare(), 1.0 / 14.0);
        Edges.due("607 of 5000", full(AT_LIMIT).hitShare(), 0.1214);
        Edges.due("766 of 5001, stopped", full(BEYOND_LIMIT).hitShare(), 766.0 / 5001.0);
    }

    // ---- promises 23 to 26

    @Edge(at = "Promise 23: setOrder", says = "The 24 orders are numbered from 0 in the order in"
            + " which they would be in a dictionary, from 0, 1, 2, 3 (number 0) and 0, 1, 3, 2"
            + " (number 1) to 3, 2, 1, 0 (number 23).")
    static void theOrdersAreThoseOfADictionary() {
        String[] orders = {
            "0123", "0132", "0213", "0231", "0312", "0321", "1023", "1032", "1203", "1230", "1302",
            "1320", "2013", "2031", "2103", "2130", "2301", "2310", "3012", "3021", "3102", "3120",
            "3201", "3210"
        };
        BoundSearch x = new BoundSearch();
        for (int order = 0; order < 24; order++) {
            Edges.due("setOrder(" + order + ")", x.setOrder(order), Math.max(order - 1, 0));
            Edges.due("the order " + order, Edges.order(x), orders[order]);
        }
    }

    @Edge(at = "Promise 23: setOrder", says = "order: 0 to 23")
    static void theFirstAndTheLastOrder() {
        BoundSearch x = Edges.row("2,5,6,5,2,7");
        x.setOrder(23);
        x.search(12, -240, 241);
        Edges.due("nodes() with the order 23", x.nodes(), 73);
        x.setOrder(0);
        x.search(12, -240, 241);
        Edges.due("nodes() with the order 0", x.nodes(), 212);
    }

    @Edge(at = "Promise 23: setOrder", says = "Returns the number of the order before.")
    static void theNumberOfTheOrderBefore() {
        BoundSearch x = new BoundSearch();
        Edges.due("setOrder(23)", x.setOrder(23), 0);
        Edges.due("setOrder(23) again", x.setOrder(23), 23);
        Edges.due("setOrder(0)", x.setOrder(0), 23);
        Edges.due("setOrder(0) again", x.setOrder(0), 0);
    }

    @Edge(at = "Promise 23: setOrder", says = "Throws IllegalArgumentException if order is out of"
            + " range")
    static void otherOrdersAreRefused() {
        int[] orders = {-1, 24, Edges.LEAST, Edges.GREATEST};
        for (int order : orders) {
            Edges.refused("setOrder(" + order + ")", Edges.ARGUMENT, Edges::busy,
                    x -> x.setOrder(order));
        }
    }

    @Edge(at = "Promise 24: order", says = "index: 0 to 3")
    static void theFirstAndTheLastPlaceOfTheOrder() {
        BoundSearch x = new BoundSearch();
        x.setOrder(13);
        Edges.due("order(0)", x.order(0), 2);
        Edges.due("order(3)", x.order(3), 1);
    }

    @Edge(at = "Promise 24: order", says = "Throws IndexOutOfBoundsException if index is out of"
            + " range")
    static void otherPlacesOfTheOrderAreRefused() {
        int[] indexes = {-1, 4, Edges.LEAST, Edges.GREATEST};
        for (int index : indexes) {
            Edges.refused("order(" + index + ")", Edges.BOUNDS, Edges::busy, x -> x.order(index));
        }
    }

    @Edge(at = "Promise 25: setLimit", says = "limit: 1 to 5000")
    static void theLeastAndTheGreatestLimit() {
        BoundSearch x = Edges.row("5");
        x.setLimit(1);
        x.search(12, -240, 241);
        Edges.due("nodes() with the limit 1", x.nodes(), 2);
        x.setLimit(2);
        x.search(12, -240, 241);
        Edges.due("nodes() with the limit 2", x.nodes(), 3);
        BoundSearch y = Edges.row(AT_LIMIT);
        y.setLimit(4999);
        Edges.due("the limit 4999", y.search(12, -240, 241), Edges.NONE);
        y.setLimit(5000);
        Edges.due("the limit 5000", y.search(12, -240, 241), 19);
    }

    @Edge(at = "Promise 25: setLimit", says = "Returns the previous limit.")
    static void theLimitBefore() {
        BoundSearch x = new BoundSearch();
        Edges.due("setLimit(1)", x.setLimit(1), 5000);
        Edges.due("setLimit(1) again", x.setLimit(1), 1);
        Edges.due("setLimit(5000)", x.setLimit(5000), 1);
        Edges.due("setLimit(5000) again", x.setLimit(5000), 5000);
    }

    @Edge(at = "Promise 25: setLimit", says = "Throws IllegalArgumentException if limit is out of"
            + " range")
    static void otherLimitsAreRefused() {
        int[] limits = {0, 5001, -1, Edges.LEAST, Edges.GREATEST};
        for (int limit : limits) {
            Edges.refused("setLimit(" + limit + ")", Edges.ARGUMENT, Edges::busy,
                    x -> x.setLimit(limit));
        }
    }

    @Edge(at = "Promise 26: useTable", says = "Returns whether it was used before the call.")
    static void theUseBefore() {
        BoundSearch x = new BoundSearch();
        Edges.due("useTable(true)", x.useTable(true), true);
        Edges.due("useTable(false)", x.useTable(false), true);
        Edges.due("useTable(false) again", x.useTable(false), false);
        Edges.due("useTable(true)", x.useTable(true), false);
    }

    @Edge(at = "Promise 26: useTable", says = "(The present table stays until the next search.)")
    static void thePresentTableStays() {
        BoundSearch x = Edges.searched("4,1,1", 12, 3, -3, -1);
        x.useTable(false);
        Edges.due("the numbers, not used", Edges.numbers(x), "2 14 4 1 6");
        Edges.due("(1, 1), not used", Edges.entry(x, 1, 1), "1 1");
        x.useTable(true);
        Edges.due("the numbers, used", Edges.numbers(x), "2 14 4 1 6");
        x.useTable(false);
        x.search(3, -3, -1);
        Edges.due("the numbers of the next search", Edges.numbers(x), "2 15 5 0 0");
    }

    // ---- promises 27 and 28

    @Edge(at = "Promise 27: nodesWith", says = "order: 0 to 23, the number of the order of the"
            + " moves")
    static void theNodesOfTheFirstAndTheLastOrder() {
        BoundSearch x = Edges.row("2,5,6,5,2,7");
        Edges.due("nodesWith(0)", x.nodesWith(0), 212);
        Edges.due("nodesWith(23)", x.nodesWith(23), 73);
        x.setOrder(23);
        Edges.due("nodesWith(0), the order set", x.nodesWith(0), 212);
    }

    @Edge(at = "Promise 27: nodesWith", says = "Throws IllegalArgumentException if order is out of"
            + " range")
    static void theNodesOfOtherOrdersAreRefused() {
        int[] orders = {-1, 24, Edges.LEAST, Edges.GREATEST};
        for (int order : orders) {
            Edges.refused("nodesWith(" + order + ")", Edges.ARGUMENT, Edges::busy,
                    x -> x.nodesWith(order));
        }
    }

    @Edge(at = "Promise 27: nodesWith", says = "Predicts the number of nodes of a search with the"
            + " depth 12 and the bounds -240 and 241.")
    static void theForecastHasAllOfTheDepth() {
        // with depth 11 it would be 3854 nodes
        Edges.due("nodesWith(14)", Edges.row("6,6,18,14,6,11,4,1,16,6,8,10").nodesWith(14), 3921);
        Edges.due("nodesWith(0) of no piles", new BoundSearch().nodesWith(0), 1);
        Edges.due("nodesWith(0) of one pile", Edges.row("5").nodesWith(0), 3);
        Edges.due("nodesWith(0) of two piles", Edges.row("1,1").nodesWith(0), 8);
    }

    @Edge(at = "Promise 27: nodesWith", says = "Returns the number of nodes (one more than the"
            + " limit if it would be stopped).")
    static void theForecastOfASearchThatWouldBeStopped() {
        BoundSearch x = Edges.row("1,1");
        x.setLimit(8);
        Edges.due("the limit 8", x.nodesWith(0), 8);
        x.setLimit(7);
        Edges.due("the limit 7", x.nodesWith(0), 8);
        x.setLimit(6);
        Edges.due("the limit 6", x.nodesWith(0), 7);
        x.setLimit(1);
        Edges.due("the limit 1", x.nodesWith(0), 2);
        Edges.due("5000 nodes", Edges.row(AT_LIMIT).nodesWith(0), 5000);
        Edges.due("many nodes", Edges.row(FAR_BEYOND).nodesWith(0), 5001);
    }

    @Edge(at = "Promise 27: nodesWith", says = "Predicts the number of nodes of a search")
    static void theForecastUsesTheTableAsASearchDoes() {
        BoundSearch x = Edges.row("4,3,1,4");
        int with = x.nodesWith(0);
        x.useTable(false);
        int without = x.nodesWith(0);
        Edges.due("more nodes without it", without > with, true);
        x.search(12, -240, 241);
        Edges.due("nodes() without it", x.nodes(), without);
        x.useTable(true);
        x.search(12, -240, 241);
        Edges.due("nodes() with it", x.nodes(), with);
    }

    @Edge(at = "Exceptions", says = "nodesWith, bestOrder the interface says: ---- forecasts; they"
            + " change nothing.")
    static void forecastsChangeNothing() {
        Edges.changesNothing("nodesWith(3)", Edges::busy, x -> x.nodesWith(3));
        Edges.changesNothing("nodesWith(0)", BoundSearch::new, x -> x.nodesWith(0));
        Edges.changesNothing("bestOrder()", Edges::busy, BoundSearch::bestOrder);
        Edges.changesNothing("bestOrder()", BoundSearch::new, BoundSearch::bestOrder);
    }

    @Edge(at = "Promise 28: bestOrder", says = "Returns the number of the order with which"
            + " nodesWith() is least")
    static void theLastOrderMayBeTheBest() {
        BoundSearch x = Edges.row("2,5,6,5,2,7");
        Edges.due("nodesWith(20)", x.nodesWith(20), 74);
        Edges.due("nodesWith(23)", x.nodesWith(23), 73);
        Edges.due("bestOrder()", x.bestOrder(), 23);
    }

    @Edge(at = "Promise 28: bestOrder", says = "among several such orders the least one.")
    static void theLeastOfSeveralBestOrders() {
        BoundSearch x = Edges.row("6,4,4,6");
        int[] best = {10, 11, 20, 21};
        for (int order : best) {
            Edges.due("nodesWith(" + order + ")", x.nodesWith(order), 21);
        }
        Edges.due("bestOrder()", x.bestOrder(), 10);
    }

    @Edge(at = "Promise 28: bestOrder", says = "among several such orders the least one.")
    static void theLeastOfAllOrders() {
        Edges.due("bestOrder() of no piles", new BoundSearch().bestOrder(), 0);
        Edges.due("bestOrder() of one pile", Edges.row("5").bestOrder(), 0);
        BoundSearch x = Edges.row("6,4,4,6");
        x.setLimit(20);
        Edges.due("bestOrder() if all are stopped", x.bestOrder(), 0);
        x.setLimit(21);
        Edges.due("bestOrder() if some are not", x.bestOrder(), 10);
    }
}
