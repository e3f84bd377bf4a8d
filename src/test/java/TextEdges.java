/** The edges of the buffer: the section "Input text" of the document, and promises 29 to 31. */
final class TextEdges {
    private static final String TEXT = "Input text";
    private static final String ERROR = "A character of the buffer is an error if no row text,"
            + " however long, begins with the characters before it and this character.";

    private TextEdges() {
    }

    private static void dueError(String text, int index) {
        Edges.due("firstError() of \"" + text + "\"", Edges.typed(text).firstError(), index);
    }

    private static void dueNoError(String text) {
        dueError(text, text.length());
    }

    private static void loads(String text) {
        Edges.due("load() of \"" + text + "\"", Edges.game(Edges.row(text)),
                "0 [" + text + "] 0 0");
    }

    private static void doesNotLoad(String text) {
        Edges.refused("load() of \"" + text + "\"", Edges.ARGUMENT, () -> Edges.typed(text),
                BoundSearch::load);
    }

    // ---- the buffer

    @Edge(at = TEXT, says = "The buffer contains at most 60 characters")
    static void sixtyCharactersAreAllowed() {
        BoundSearch x = new BoundSearch();
        for (int length = 1; length <= 60; length++) {
            Edges.due("append('1')", x.append('1'), length);
        }
        Edges.due("clearText()", x.clearText(), 60);
    }

    @Edge(at = TEXT, says = "The buffer contains at most 60 characters")
    static void sixtyOneCharactersAreNot() {
        Edges.refused("append('1')", Edges.STATE, () -> Edges.typed(Edges.many("1", 60)),
                x -> x.append('1'));
    }

    @Edge(at = TEXT, says = "and is empty at first.")
    static void theBufferIsEmptyAtFirst() {
        Edges.due("clearText()", new BoundSearch().clearText(), 0);
        Edges.due("firstError()", new BoundSearch().firstError(), 0);
        Edges.due("append('1')", new BoundSearch().append('1'), 1);
    }

    // ---- row texts

    @Edge(at = TEXT, says = "A row text is 1 to 12 numbers")
    static void oneAndTwelveNumbersAreARow() {
        loads("7");
        loads("20");
        loads(Edges.TWELVE);
        loads(Edges.rowOf("1", 12));
        loads(Edges.rowOf("20", 12));
        dueNoError(Edges.rowOf("20", 12));
    }

    @Edge(at = TEXT, says = "A row text is 1 to 12 numbers")
    static void noNumberIsNone() {
        doesNotLoad("");
        doesNotLoad(",");
    }

    @Edge(at = TEXT, says = "A row text is 1 to 12 numbers")
    static void thirteenNumbersAreNone() {
        doesNotLoad(Edges.rowOf("1", 13));
        doesNotLoad(Edges.rowOf("20", 13));
        doesNotLoad(Edges.rowOf("1", 12) + ",");
        dueError(Edges.rowOf("1", 13), 23);
        dueError(Edges.rowOf("20", 13), 35);
        dueError(Edges.rowOf("1", 12) + ",", 23);
    }

    @Edge(at = TEXT, says = "from 1 to 20")
    static void theLeastAndTheGreatestNumber() {
        loads("1");
        loads("20");
        loads("1,20,1");
        dueNoError("1");
        dueNoError("20");
        for (int number = 1; number <= 20; number++) {
            dueNoError("" + number);
            dueNoError("20," + number);
            loads(Edges.rowOf("20", 11) + "," + number);
        }
    }

    @Edge(at = TEXT, says = "from 1 to 20")
    static void theFirstNumbersBeyond() {
        doesNotLoad("0");
        doesNotLoad("21");
        doesNotLoad(Edges.rowOf("20", 11) + ",0");
        doesNotLoad(Edges.rowOf("20", 11) + ",21");
        dueError("0", 0);
        dueError("21", 1);
        dueError("5,0", 2);
        dueError("5,21", 3);
        dueError(Edges.rowOf("20", 11) + ",0", 33);
        dueError(Edges.rowOf("20", 11) + ",21", 34);
    }

    @Edge(at = TEXT, says = "from 1 to 20")
    static void longNumbersAreNone() {
        dueError("30", 1);
        dueError("99", 1);
        dueError("100", 2);
        dueError("200", 2);
        dueError("2000", 2);
        // a number of so many digits would wrap around
        dueError("4294967297", 1);
        dueError("18446744073709551617", 2);
        doesNotLoad("4294967297");
        doesNotLoad("10000000000");
    }

    @Edge(at = TEXT, says = "without leading zeros")
    static void leadingZerosAreNone() {
        doesNotLoad("01");
        doesNotLoad("5,05");
        doesNotLoad("00");
        dueError("01", 0);
        dueError("00", 0);
        dueError("5,05", 2);
        dueNoError("10,20");
        loads("10,20");
    }

    @Edge(at = TEXT, says = "with \",\" between them.")
    static void oneCommaBetweenTwoNumbers() {
        doesNotLoad(",5");
        doesNotLoad("5,");
        doesNotLoad("5,,6");
        dueError(",5", 0);
        dueNoError("5,");
        dueError("5,,6", 2);
        loads("5,6");
    }

    @Edge(at = TEXT, says = "with \",\" between them.")
    static void noOtherCharacterBetweenThem() {
        for (char code = 33; code <= 126; code++) {
            if (code != ',' && (code < '0' || code > '9')) {
                dueError("5" + code + "6", 1);
                dueError("5," + code, 2);
                dueError("" + code, 0);
            }
        }
        doesNotLoad("5;6");
        doesNotLoad("5.6");
    }

    // ---- errors

    @Edge(at = TEXT, says = ERROR)
    static void eachFirstCharacter() {
        for (char code = 33; code <= 126; code++) {
            dueError("" + code, code >= '1' && code <= '9' ? 1 : 0);
        }
    }

    @Edge(at = TEXT, says = ERROR)
    static void eachSecondCharacter() {
        for (char code = 33; code <= 126; code++) {
            boolean isDigit = code >= '0' && code <= '9';
            dueError("1" + code, isDigit || code == ',' ? 2 : 1);
            dueError("2" + code, code == '0' || code == ',' ? 2 : 1);
            dueError("3" + code, code == ',' ? 2 : 1);
            dueError("9" + code, code == ',' ? 2 : 1);
        }
    }

    @Edge(at = TEXT, says = ERROR)
    static void eachCharacterAfterTwoDigitsAndAfterAComma() {
        for (char code = 33; code <= 126; code++) {
            dueError("10" + code, code == ',' ? 3 : 2);
            dueError("19" + code, code == ',' ? 3 : 2);
            dueError("20" + code, code == ',' ? 3 : 2);
            dueError("1," + code, code >= '1' && code <= '9' ? 3 : 2);
            dueError("20," + code, code >= '1' && code <= '9' ? 4 : 3);
        }
    }

    @Edge(at = TEXT, says = ERROR)
    static void theTwelfthNumberIsTheLast() {
        String eleven = Edges.rowOf("1", 11);
        for (char code = 33; code <= 126; code++) {
            boolean isDigit = code >= '0' && code <= '9';
            // a comma behind eleven numbers, and none behind twelve
            dueError(eleven + code, isDigit || code == ',' ? 22 : 21);
            dueError(eleven + ",1" + code, isDigit ? 24 : 23);
            dueError(eleven + ",20" + code, 24);
        }
    }

    // ---- promise 29

    @Edge(at = "Promise 29: append", says = "code: a character code, 33 to 126")
    static void theLeastAndTheGreatestCode() {
        Edges.due("append(33)", new BoundSearch().append(33), 1);
        Edges.due("append(126)", new BoundSearch().append(126), 1);
        for (int code = 33; code <= 126; code++) {
            Edges.due("append(" + code + ")", Edges.typed("1").append(code), 2);
        }
    }

    @Edge(at = "Promise 29: append", says = "Throws IllegalArgumentException if code is out of"
            + " range")
    static void otherCodesAreRefused() {
        // two of them are 49, a "1", if they are cut to eight or to sixteen bits
        int[] codes = {32, 127, 0, -1, 128, 49 + 256, 49 + 65536, Edges.LEAST, Edges.GREATEST};
        for (int code : codes) {
            Edges.refused("append(" + code + ")", Edges.ARGUMENT, Edges::busy,
                    x -> x.append(code));
        }
    }

    @Edge(at = "Promise 29: append", says = "Appends a character to the buffer.")
    static void theCharacterComesLast() {
        BoundSearch x = Edges.typed("1");
        x.append('2');
        x.append(',');
        x.append('3');
        x.load();
        Edges.due("the game", Edges.game(x), "0 [12,3] 0 0");
    }

    @Edge(at = "Promise 29: append", says = "Returns the new length of the buffer.")
    static void theLengthGoesToSixty() {
        BoundSearch x = new BoundSearch();
        Edges.due("the first", x.append('1'), 1);
        Edges.type(x, Edges.many("1", 57));
        Edges.due("the last but one", x.append('1'), 59);
        Edges.due("the last", x.append('1'), 60);
        x.clearText();
        Edges.due("the first again", x.append('1'), 1);
    }

    @Edge(at = "Promise 29: append", says = "Throws IllegalStateException if the buffer contains 60"
            + " characters")
    static void aFullBufferRefuses() {
        int[] codes = {33, 44, 49, 126};
        for (int code : codes) {
            Edges.refused("append(" + code + ")", Edges.STATE, Edges::busyAndFull,
                    x -> x.append(code));
        }
        BoundSearch x = Edges.typed(Edges.many("1", 60));
        Edges.thrownBy(x, it -> it.append('1'));
        Edges.due("clearText()", x.clearText(), 60);
        Edges.due("append('1') after it", x.append('1'), 1);
    }

    // ---- promise 30

    @Edge(at = "Promise 30: clearText", says = "Empties the buffer.")
    static void anEmptiedBuffer() {
        BoundSearch x = Edges.typed("5,6");
        x.clearText();
        Edges.due("firstError()", x.firstError(), 0);
        Edges.due("load() throws", Edges.thrownBy(x, BoundSearch::load),
                "IllegalArgumentException");
        Edges.type(x, "7").load();
        Edges.due("the game", Edges.game(x), "0 [7] 0 0");
    }

    @Edge(at = "Promise 30: clearText", says = "Returns the length that it had.")
    static void theLengthsOfAnEmptyAndOfAFullBuffer() {
        BoundSearch x = new BoundSearch();
        Edges.due("of an empty one", x.clearText(), 0);
        Edges.type(x, "1");
        Edges.due("of one character", x.clearText(), 1);
        Edges.due("of an emptied one", x.clearText(), 0);
        Edges.type(x, Edges.many("x", 60));
        Edges.due("of a full one", x.clearText(), 60);
        Edges.due("of an emptied one again", x.clearText(), 0);
    }

    // ---- promise 31

    @Edge(at = "Promise 31: firstError", says = "Returns the index of the first character that is"
            + " an error")
    static void theFirstOfSeveralErrors() {
        dueError("x,y", 0);
        dueError("1x,y", 1);
        dueError("1,x0,,", 2);
        dueError(Edges.many("x", 60), 0);
        dueError(Edges.many("1", 60), 2);
        // no row text is longer than 35 characters
        dueError(Edges.rowOf("20", 20), 35);
        dueError(Edges.rowOf("20", 20) + "x", 35);
        dueError(Edges.rowOf("20", 12) + Edges.many(",", 25), 35);
    }

    @Edge(at = "Promise 31: firstError", says = "the length of the buffer if there is none (also if"
            + " the buffer is not a complete row text).")
    static void theLengthIfThereIsNoError() {
        dueNoError("");
        dueNoError("1");
        dueNoError("1,");
        dueNoError("1,2");
        dueNoError(Edges.rowOf("20", 11) + ",");
        dueNoError(Edges.rowOf("20", 11) + ",2");
        dueNoError(Edges.rowOf("20", 12));
    }

    @Edge(at = "Promise 31: firstError", says = "Finds the first error of the buffer.")
    static void findingAnErrorChangesNothing() {
        String[] texts = {"", "1,2", "1,", "1,x", "5,,5"};
        for (String text : texts) {
            Edges.changesNothing("firstError() of \"" + text + "\"", () -> Edges.busyWith(text),
                    BoundSearch::firstError);
        }
        Edges.changesNothing("firstError() of a full buffer", Edges::busyAndFull,
                BoundSearch::firstError);
        BoundSearch x = Edges.typed("5,");
        Edges.due("firstError()", x.firstError(), 2);
        Edges.type(x, "6").load();
        Edges.due("the game", Edges.game(x), "0 [5,6] 0 0");
    }
}
