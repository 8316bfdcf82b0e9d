/** The terms of the document: each sentence of its sections 1 to 6 that names a boundary case, in its order. */
public final class TermsEdgesTest {
    /** Two slots across of three cells, apart from each other. */
    private static final String APART = "grid 3 3;block 0 1;block 1 1;block 2 1;";
    /** Three slots across of three cells, apart from each other. */
    private static final String THREE = "grid 3 5;block 0 1;block 1 1;block 2 1;block 0 3;block 1 3;block 2 3;";
    private static final String NO_SLOTS = "grid 2 2;block 0 0;block 1 1;";
    private static final String SQUARE = "grid 2 2;word ab;word cd;word ac;word bd;";

    public static void main(String[] args) {
        sidesOfTheGrid();
        aSlotHasTwoCells();
        aSlotIsAsLongAsPossible();
        acrossBeforeDown();
        placesFromZero();
        thirtyWords();
        twoToSixLetters();
        noTwoWordsTheSame();
        prizeAtLeastOne();
        lettersCountAsOftenAsTheyOccur();
        noLetterInABlockedCell();
        wordsOfTheSlotsLength();
        noRoundWithAnEmptySlot();
        upToARoundThatChangesNothing();
        theSameSingleWord();
        solvedOnlyWithSlots();
        refusedForTheFirstReason();
        takeBackWithoutGuesses();
        candidatesOfBeforeTheGuess();
        theFewestAboveOne();
        theSmallestNumberDecides();
        stepsOfEachState();
        refusedSteps();
        beginsAnew();
        sixHundredBytes();
        numbersOfAnyLength();
        everyOtherByte();
        spacesAndLineFeeds();
        gridFirstAndOnlyThere();
        solveZeroToTwoHundred();
        theFirstTokenThatHasAnError();
        theTextEndsTooEarly();
        codeOfALetter();
        codesOfWords();
        codesOfGuesses();
        blockAndBack();
        statementsCountBeforeTheError();
        Check.end("TermsEdgesTest");
    }

    // ---- section 1

    private static void sidesOfTheGrid() {
        for (int columns = 0; columns <= 8; columns++) {
            for (int rows = 0; rows <= 8; rows++) {
                boolean right = columns >= 2 && columns <= 6;
                String text = "grid " + (right ? "" : "^") + columns + " " + (right && (rows < 2 || rows > 6) ? "^" : "") + rows + ";";
                if (text.indexOf('^') < 0) {
                    Check.same("section 1 " + text, Check.loaded(text).columns() * 10 + Check.loaded(text).rows(), columns * 10 + rows);
                } else {
                    Check.bad(text, 2);
                }
            }
        }
    }

    private static void aSlotHasTwoCells() {
        Check.same("section 1 one cell is no slot", Check.loaded("grid 3 2;block 1 0;block 0 1;block 1 1;block 2 1;").slotCount(), 0);
        Check.same("section 1 one cell down is no slot", Check.loaded("grid 2 3;block 0 1;block 1 0;block 1 1;block 1 2;").slotCount(), 0);
        ShopCross two = Check.loaded(strip(2));
        Check.same("section 1 two cells across are a slot", two.slotCount() * 10 + two.lengthOf(0), 12);
        ShopCross down = Check.loaded("grid 2 2;block 1 0;block 1 1;");
        Check.same("section 1 two cells down are a slot", down.slotCount() * 10 + down.lengthOf(0), 12);
        Check.same("section 1 it is down", down.isDown(0), true);
    }

    private static void aSlotIsAsLongAsPossible() {
        for (int length = 2; length <= 6; length++) {
            ShopCross shop = Check.loaded(strip(length));
            Check.same("section 1 one slot from side to side", shop.slotCount(), 1);
            Check.same("section 1 one slot from side to side", shop.lengthOf(0), length);
        }
        ShopCross split = Check.loaded(strip(6).replace("block 0 1;", "block 0 1;block 3 0;"));
        Check.same("section 1 a blocked cell divides it", split.slotCount(), 2);
        Check.same("section 1 the first part", split.lengthOf(0) * 10 + split.firstX(0), 30);
        Check.same("section 1 the second part", split.lengthOf(1) * 10 + split.firstX(1), 24);
    }

    private static void acrossBeforeDown() {
        ShopCross shop = Check.loaded("grid 2 2;");
        boolean[] down = {false, true, true, false};
        for (int slot = 0; slot < 4; slot++) {
            Check.same("section 1 across before down " + slot, shop.isDown(slot), down[slot]);
        }
        Check.same("section 1 the same first cell", shop.firstX(0) + shop.firstY(0) + shop.firstX(1) + shop.firstY(1), 0);
    }

    private static void placesFromZero() {
        ShopCross shop = Check.loaded("grid 6 6;");
        for (int slot = 0; slot < 12; slot++) {
            Check.same("section 1 six crossings", shop.crossingCount(slot), 6);
            for (int index = 0; index < 6; index++) {
                Check.same("section 1 from 0 to 5", shop.crossingPlace(slot, index), index);
            }
        }
    }

    // ---- section 2

    private static void thirtyWords() {
        Check.same("section 2 29 words", Check.loaded("grid 2 2;" + Check.words(29)).wordCount(), 29);
        ShopCross shop = Check.loaded("grid 2 2;" + Check.words(30));
        Check.same("section 2 30 words", shop.wordCount(), 30);
        Check.state("section 2 31 words", () -> shop.addWord(Check.number("xyz")));
        Check.bad("grid 2 2;" + Check.words(30) + "^word xyz;", 5);
        // thirty words of six letters for a slot of six cells
        StringBuilder text = new StringBuilder(strip(6));
        for (int i = 0; i < 30; i++) {
            text.append("word ").append(i < 26 ? "aaaaa" : "aaaab").append((char) ('a' + i % 26)).append(';');
        }
        ShopCross longest = Check.loaded(text.toString());
        Check.same("section 2 the last letter of all", longest.letterOf(29, 5), 'd');
        Check.same("section 2 the last letter of the word before", longest.letterOf(28, 5), 'c');
        Check.same("section 3 thirty candidates", longest.candidateCount(0) * 100 + longest.candidateAt(0, 29), 3029);
        Check.same("section 2 the last word's prize", longest.prizeOf(29), 4 * 1 + 5 + 8);
    }

    private static void twoToSixLetters() {
        String letters = "abcdefgh";
        for (int length = 1; length <= 8; length++) {
            String word = letters.substring(0, length);
            if (length < 2 || length > 6) {
                Check.bad("grid 2 2;word ^" + word + ";", 2);
            } else {
                Check.same("section 2 " + word, Check.loaded("grid 2 2;word " + word + ";").wordLength(0), length);
            }
        }
    }

    private static void noTwoWordsTheSame() {
        Check.bad("grid 2 2;word ab;word ^ab;", 3);
        Check.bad("grid 2 2;word abcdef;word ab;word ^abcdef;", 3);
        ShopCross shop = Check.loaded("grid 2 2;word ab;word ba;word abc;word bc;word aba;");
        Check.same("section 2 the beginning of another is not the same", shop.wordCount(), 5);
        Check.state("section 2 the same", () -> shop.addWord(Check.number("aba")));
        Check.same("section 2 not the same", shop.addWord(Check.number("abab")), 5);
    }

    private static void prizeAtLeastOne() {
        ShopCross shop = Check.loaded("grid 2 2;");
        Check.same("section 2 no word with it", shop.prizeOfLetter('z'), 10);
        int[] due = {9, 8, 7, 6, 5, 4, 3, 2, 1, 1, 1, 1};
        for (int i = 0; i < due.length; i++) {
            shop.addWord(Check.number("z" + (char) ('a' + i)));
            Check.same("section 2 words with z: " + (i + 1), shop.prizeOfLetter('z'), due[i]);
            Check.same("section 2 the word, too", shop.prizeOf(0), due[i] + 9);
        }
        ShopCross full = Check.loaded("grid 2 2;" + Check.words(26));
        Check.same("section 2 all words have it", full.wordsWith('b') * 10 + full.prizeOfLetter('b'), 261);
    }

    private static void lettersCountAsOftenAsTheyOccur() {
        ShopCross shop = Check.loaded("grid 2 2;word aaaaaa;word ab;");
        Check.same("section 2 six of them are in one word", shop.wordsWith('a'), 2);
        Check.same("section 2 six of them count six times", shop.prizeOf(0), 6 * 8);
        Check.same("section 2 one of them counts once", shop.prizeOf(1), 8 + 9);
    }

    // ---- section 3

    private static void noLetterInABlockedCell() {
        Check.bad(NO_SLOTS + "letter 0 ^0 a;", 3);
        ShopCross shop = Check.loaded(NO_SLOTS);
        Check.state("section 3 a blocked cell", () -> shop.setLetter(0, 0, 'a'));
        Check.same("section 3 a cell of no slot", shop.setLetter(1, 0, 'a'), 0);
        Check.same("section 3 a cell of no slot", shop.givenLetter(1, 0), 'a');
    }

    private static void wordsOfTheSlotsLength() {
        for (int length = 2; length <= 6; length++) {
            ShopCross shop = Check.loaded(strip(length) + "word ab;word abc;word abcd;word abcde;word abcdef;");
            Check.same("section 3 of this length alone", shop.candidateCount(0), 1);
            Check.same("section 3 of this length alone", shop.candidateAt(0, 0), length - 2);
            String last = "letter " + (length - 1) + " 0 ";
            String two = "word abcdef;word zbcdez;word abcdez;".replaceAll("bcde", "bcde".substring(0, length - 2));
            Check.same("section 3 two letters given", Check.candidates(Check.loaded(strip(length)
                    + two + "letter 0 0 a;" + last + "z;"), 0), "a" + "bcde".substring(0, length - 2) + "z");
            Check.same("section 3 no word has them", Check.loaded(strip(length) + two + last + "q;").state(), 2);
        }
        Check.same("section 3 no word of this length", Check.loaded(strip(6) + "word abcde;").candidateCount(0), 0);
    }

    private static void noRoundWithAnEmptySlot() {
        // both rows have just this word, but the columns are empty from the beginning
        ShopCross shop = Check.loaded("grid 3 2;word abc;");
        Check.same("section 3 no round is done", shop.candidatesLeft(), 2);
        Check.same("section 3 stuck", shop.state(), 2);
        Check.same("section 3 the first that is empty", shop.emptySlot(), 1);
    }

    private static void upToARoundThatChangesNothing() {
        // in the first round abc leaves the other two slots, in the second abd, the only one that is left there, leaves the third
        ShopCross shop = Check.loaded(THREE + "word abc;word abd;word axe;letter 2 0 c;letter 1 2 b;");
        Check.same("section 3 first", Check.candidates(shop, 0), "abc");
        Check.same("section 3 second", Check.candidates(shop, 1), "abd");
        Check.same("section 3 third", Check.candidates(shop, 2), "axe");
        ShopCross chain = Check.loaded(THREE + "word abc;word abd;word abe;letter 2 0 c;");
        Check.same("section 3 open", chain.state(), 0);
        Check.same("section 3 abc has left", chain.candidatesLeft(), 5);
        Check.same("section 3 to the end", chain.guess(1, 1), 1);
        Check.same("section 3 to the end", Check.candidates(chain, 2), "abe");
    }

    private static void theSameSingleWord() {
        Check.same("section 3 two slots", Check.loaded(APART + "word abc;").candidatesLeft(), 0);
        Check.same("section 3 three slots", Check.loaded(THREE + "word abc;").candidatesLeft(), 0);
        // two of three slots have just abc: it leaves all of them, and the third keeps the other word
        ShopCross shop = Check.loaded(THREE + "word abc;word xbc;letter 0 0 a;letter 0 4 a;");
        Check.same("section 3 first", Check.candidates(shop, 0), "");
        Check.same("section 3 second", Check.candidates(shop, 1), "xbc");
        Check.same("section 3 third", Check.candidates(shop, 2), "");
        Check.same("section 3 stuck", shop.state(), 2);
        Check.same("section 3 one slot keeps its word", Check.loaded(strip(3) + "word abc;").candidatesLeft(), 1);
    }

    private static void solvedOnlyWithSlots() {
        Check.same("section 3 no slots", Check.loaded(NO_SLOTS).state(), 0);
        Check.same("section 3 no slots, but words", Check.loaded(NO_SLOTS + "word ab;").state(), 0);
        Check.same("section 3 one slot with one word", Check.loaded(strip(3) + "word abc;").state(), 1);
        Check.same("section 3 one slot with two words", Check.loaded(strip(3) + "word abc;word abd;").state(), 0);
        Check.same("section 3 one slot without words", Check.loaded(strip(3)).state(), 2);
        Check.same("section 3 one slot open of three", Check.loaded(THREE + "word abc;word abd;word xbe;word xbf;"
                + "letter 2 0 c;letter 2 2 d;").state(), 0);
        Check.same("section 3 one slot empty of three", Check.loaded(THREE + "word abc;word abd;letter 2 0 c;letter 2 2 d;").state(), 2);
    }

    // ---- section 4

    private static void refusedForTheFirstReason() {
        ShopCross solved = Check.loaded(strip(3) + "word abc;word ab;");
        Check.same("section 4 the state is not 0, and it is the only one", solved.guessRefusal(0, 0), 1);
        Check.same("section 4 the state is not 0, and it is no candidate", solved.guessRefusal(0, 1), 1);
        ShopCross open = Check.loaded(THREE + "word abc;word abd;word abe;word ab;letter 2 0 c;");
        Check.same("section 4 not a candidate of a slot with one", open.guessRefusal(0, 1), 2);
        Check.same("section 4 not a candidate of a slot with two", open.guessRefusal(1, 0), 2);
        Check.same("section 4 the only one", open.guessRefusal(0, 0), 3);
        Check.same("section 4 one of two", open.guessRefusal(1, 1), 0);
        ShopCross hopeless = Check.loaded(strip(3) + "word ab;solve 1;");
        Check.same("section 4 hopeless", hopeless.guessRefusal(0, 0), 1);
        ShopCross stuck = Check.loaded(APART + "word abc;word abd;word abe;letter 0 0 x;");
        Check.same("section 4 stuck, and it is one of three", stuck.candidateCount(1) * 10 + stuck.guessRefusal(1, 1), 31);
    }

    private static void takeBackWithoutGuesses() {
        for (String text : new String[] {SQUARE, NO_SLOTS, strip(3), strip(3) + "word abc;", strip(3) + "solve 1;"}) {
            ShopCross shop = Check.loaded(text);
            Check.state("section 4 no guesses " + text, () -> shop.takeBack());
            Check.same("section 4 none is taken back", shop.takenBack(), 0);
        }
    }

    private static void candidatesOfBeforeTheGuess() {
        ShopCross shop = Check.loaded(strip(3) + "word abc;word abd;word abe;");
        shop.guess(0, 1);
        Check.same("section 4 its word leaves its slot", shop.takeBack(), 0);
        Check.same("section 4 two are left", Check.candidates(shop, 0), "abc abe");
        shop.guess(0, 0);
        Check.same("section 4 the former word stays away", shop.takeBack(), 1);
        Check.same("section 4 one is left", Check.candidates(shop, 0), "abe");
        ShopCross none = Check.loaded(APART + "word abc;word abd;guess 0 abc;back;");
        Check.same("section 4 narrowed after it is taken back", Check.candidates(none, 0) + " " + Check.candidates(none, 1), "abd abc");
        Check.same("section 4 solved by taking back", none.state() * 10 + none.level(), 10);
    }

    private static void theFewestAboveOne() {
        ShopCross shop = Check.loaded(THREE + "word abc;word abd;word abe;word xbe;letter 2 0 c;letter 0 4 a;");
        Check.same("section 4 one, three and two candidates", shop.candidateCount(0) * 100 + shop.candidateCount(1) * 10
                + shop.candidateCount(2), 132);
        Check.same("section 4 two are the fewest", shop.bestSlot(), 2);
        Check.same("section 4 none has more than one", Check.loaded(strip(3) + "word abc;").bestSlot(), -1);
        ShopCross stuck = Check.loaded(APART + "word abc;word abd;letter 0 0 x;");
        Check.same("section 4 an empty slot is not the best", stuck.bestSlot(), 1);
    }

    private static void theSmallestNumberDecides() {
        ShopCross shop = Check.loaded(THREE + "word abc;word abd;word abe;word xab;");
        Check.same("section 4 slots with equally many", shop.bestSlot(), 0);
        // a and b are in all words, c, d, e and x in one each
        Check.same("section 4 words with equal prizes", shop.prizeOf(0) - shop.prizeOf(3), 0);
        Check.same("section 4 words with equal prizes", shop.bestWord(2), 0);
        shop.addWord(Check.number("xyz"));
        Check.same("section 4 the greatest prize, though it is the last", shop.bestWord(2), 4);
    }

    private static void stepsOfEachState() {
        ShopCross open = Check.loaded(APART + "word abc;word abd;");
        Check.same("section 4 state 0: a guess", open.step() * 10 + open.guesses(), 11);
        ShopCross first = new ShopCross();
        first.step();
        Check.same("section 4 state 2 with guesses", first.step(), 0);
        Check.same("section 4 state 2 with guesses: one is taken back", first.takenBack(), 1);
        ShopCross stuck = Check.loaded(strip(3));
        Check.same("section 4 state 2 without guesses", stuck.step(), 3);
        Check.same("section 4 nothing else changes", stuck.guesses() + stuck.takenBack() + stuck.level(), 0);
    }

    private static void refusedSteps() {
        for (String text : new String[] {strip(3) + "word abc;", strip(3) + "solve 1;", NO_SLOTS, NO_SLOTS + "word ab;letter 1 0 a;"}) {
            ShopCross shop = Check.loaded(text);
            Check.state("section 4 step " + text, () -> shop.step());
            Check.same("section 4 stepsToEnd " + text, shop.stepsToEnd(), 0);
            Check.same("section 4 solve " + text, shop.solve(200), 0);
        }
        for (String text : new String[] {strip(3), strip(3) + "word abc;word abd;"}) {
            Check.same("section 4 one slot is enough", Check.loaded(text).stepsToEnd(), 1);
        }
    }

    private static void beginsAnew() {
        String text = THREE + "word abc;word abd;word abe;letter 0 0 a;guess 0 abc;";
        Check.same("section 4 guessed", Check.loaded(text).level(), 1);
        for (String more : new String[] {"letter 0 0 a;", "letter 0 2 a;", "letter 0 0 x;", "word xy;", "guess 1 abd;letter 0 0 a;"}) {
            ShopCross shop = Check.loaded(text + more);
            Check.same("section 4 the statement " + more, shop.level(), 0);
            Check.same("section 4 no guess is taken back", shop.takenBack(), 0);
            Check.same("section 4 but lost", shop.levelDifference(), 0);
        }
        int[][] letters = {{0, 0, 'a', 'a'}, {1, 0, 0, 0}, {0, 0, 0, 'a'}, {1, 4, 'b', 0}, {0, 0, 'b', 'a'}};
        for (int[] letter : letters) {
            ShopCross shop = Check.loaded(text);
            Check.same("section 4 the former letter", shop.setLetter(letter[0], letter[1], letter[2]), letter[3]);
            Check.same("section 4 setLetter", shop.level() * 10 + shop.guesses(), 1);
        }
        ShopCross refused = Check.loaded(text);
        Check.state("section 4 no successful call", () -> refused.setLetter(0, 1, 'a'));
        Check.argument("section 4 no successful call", () -> refused.setLetter(0, 0, 1));
        Check.state("section 4 no successful call", () -> refused.addWord(Check.number("abc")));
        Check.same("section 4 refused calls do not begin anew", refused.level(), 1);
        refused.setLetter(0, 0, 'a');
        refused.guess(0, 0);
        refused.guess(1, 1);
        refused.addWord(Check.number("abf"));
        Check.same("section 4 one guess was lost, and then two", refused.guesses() * 10 + refused.levelDifference(), 30);
    }

    // ---- section 5

    private static void sixHundredBytes() {
        StringBuilder text = new StringBuilder("grid 2 2;");
        while (text.length() < 580) {
            text.append("solve 0;");
        }
        while (text.length() < 592) {
            text.append(' ');
        }
        text.append("word ab;");
        Check.same("section 5 all of 600 bytes", text.length(), 600);
        ShopCross shop = new ShopCross();
        Check.put(shop, text.toString());
        Check.state("section 5 601 bytes", () -> shop.appendInput(0x20202020, 0x20202020, 0x20202020, 0x20202020, 0x20202020));
        Check.same("section 5 all of them are read", shop.load(), 1);
    }

    private static void numbersOfAnyLength() {
        String zeros = "0".repeat(500);
        Check.same("section 5 leading zeros", Check.loaded("grid " + zeros + "2 3;").columns(), 2);
        Check.same("section 5 zeros alone", Check.loaded(NO_SLOTS + "solve " + zeros + ";").state(), 0);
        Check.bad("grid ^" + zeros + " 2;", 2);
        Check.bad("grid ^" + "9".repeat(500) + " 2;", 2);
        Check.bad("grid ^2" + zeros + " 2;", 2);
        for (String great : new String[] {"256", "258", "65538", "4294967298", "18446744073709551618", "1002", "1000002"}) {
            Check.bad("grid ^" + great + " 2;", 2);
            Check.bad("grid 2 ^" + great + ";", 2);
            Check.bad("grid 3 3;block ^" + great + " 0;", 2);
            Check.bad("grid 3 3;letter 0 ^" + great + " a;", 2);
            Check.bad("grid 3 3;solve ^" + great + ";", 2);
            Check.bad("grid 3 3;word abc;guess ^" + great + " abc;", 4);
        }
    }

    private static void everyOtherByte() {
        for (int sign = 0; sign < 256; sign++) {
            boolean letter = sign >= 'a' && sign <= 'z';
            boolean digit = sign >= '0' && sign <= '9';
            if (letter || digit || sign == ' ' || sign == '\n') {
                continue;
            }
            String other = String.valueOf((char) sign);
            Check.bad("^" + other + " grid 2 2;", 1);
            Check.bad("grid^" + other + "2 2;", 1);
            Check.bad("grid 2^" + other + "2;", 1);
            Check.bad("grid 2 2;^" + other, 1);
            Check.bad("grid 2 2;word^" + other + "ab;", 1);
            if (sign != ';') {
                Check.bad("grid 2 2;word ab^" + other + ";", 1);
                Check.bad("grid 2 2^" + other + ";", 1);
            }
        }
    }

    private static void spacesAndLineFeeds() {
        Check.same("section 5 many of them", Check.loaded("\n \n  grid\n\n2\n 2 ; \n\n word\n ab \n;\n \n").wordCount(), 1);
        Check.same("section 5 none of them where none is needed", Check.loaded("grid2 2;solve5;letter0 0a;word ab;").wordCount(), 1);
        Check.bad("^gr id 2 2;", 1);
        Check.bad("^gr\nid 2 2;", 1);
        Check.bad("grid 2 2;word ab ^cd;", 1);
        Check.bad("grid 2 2;word ^a b;", 2);
        Check.bad("grid 2 2;solve 2 ^0;", 1);
        Check.bad("grid ^22;", 2);
        Check.bad("grid 2 2;^wordab;", 1);
    }

    private static void gridFirstAndOnlyThere() {
        for (String first : new String[] {"block 0 0;", "word ab;", "letter 0 0 a;", "guess 0 ab;", "back;", "solve 1;", ";", "5", "xrid 2 2;"}) {
            Check.bad("^" + first + "grid 2 2;", 1);
        }
        Check.bad("grid 2 2;^grid 2 2;", 1);
        Check.bad("grid 2 2;word ab;^grid 2 2;", 1);
        for (String no : new String[] {"xlock 0 0", "xord ab", "xetter 0 0 a", "xuess 0 ab", "xack", "xolve 1", "blocks 0 0", "bloc 0 0",
            "words ab", "wor ab", "letters 0 0 a", "lette 0 0 a", "guesses 0 ab", "gues 0 ab", "backs", "bac", "solves 1", "solv 1"}) {
            Check.bad("grid 2 2;^" + no + ";", 1);
        }
    }

    private static void solveZeroToTwoHundred() {
        String text = THREE + "word abc;word abd;word abe;";
        Check.same("section 5 solve 0", Check.loaded(text + "solve 0;").guesses(), 0);
        Check.same("section 5 solve 1", Check.loaded(text + "solve 1;").guesses(), 1);
        Check.same("section 5 solve 200, fewer are possible", Check.loaded(text + "solve 200;").guesses(), 2);
        Check.same("section 5 refused steps are no error", Check.loaded(text + "solve 200;solve 200;").state(), 1);
        Check.same("section 5 no slots", Check.loaded(NO_SLOTS + "solve 200;").state(), 0);
        Check.bad(text + "solve ^201;", 2);
        Check.bad(text + "solve ^-1;", 1);
    }

    private static void theFirstTokenThatHasAnError() {
        Check.bad("grid ^1 7:", 2);
        Check.bad("grid 2 ^7:", 2);
        Check.bad("grid 2 2;word ^a;word abcdefg;", 2);
        Check.bad("grid 2 2;word ab;word ^ab:", 3);
        Check.bad("grid 2 2;letter 0 0 ^ab:", 1);
        Check.bad("grid 2 2;letter ^2 2 ab:", 2);
        Check.bad("grid 2 2;block 0 0;letter 0 ^0 ab:", 3);
        Check.bad("grid 2 2;guess ^4 xy:", 4);
        Check.bad("grid 2 2;guess 3 ^xy:", 4);
        Check.bad("grid 2 2;word ab;^block 9 9:", 6);
        Check.bad("grid 2 2;^back:", 6);
        Check.bad("grid 2 2;" + Check.words(30) + "^word ba:", 5);
        Check.bad("grid 2 2;" + Check.words(30) + "^word", 5);
    }

    private static void theTextEndsTooEarly() {
        String text = "grid 3 3 ; block 0 1 ; block 1 1 ; block 2 1 ; word abc ; word abd ; word abe ; letter 0 0 a ; "
                + "guess 0 abc ; back ; solve 3 ; ";
        for (int end = 0; end < text.length(); end++) {
            boolean tokenEnds = end == 0 || text.charAt(end) == ' ';
            if (tokenEnds && end > 0 && text.charAt(end - 1) == ';') {
                Check.same("section 5 a statement ends", Check.loaded(text.substring(0, end)).errorCode(), 0);
            } else if (tokenEnds) {
                Check.bad(text.substring(0, end) + "^", 1);
                Check.bad(text.substring(0, end) + " ^", 1);
                Check.bad(text.substring(0, end) + "\n \n^", 1);
            }
        }
    }

    private static void codeOfALetter() {
        Check.same("section 5 a", Check.loaded("grid 2 2;letter 0 0 a;").givenLetter(0, 0), 97);
        Check.same("section 5 z", Check.loaded("grid 2 2;letter 1 1 z;").givenLetter(1, 1), 122);
        Check.bad("grid 2 2;letter 0 0 ^aa;", 1);
        Check.bad("grid 2 2;letter 0 0 ^abcdefghij;", 1);
        Check.bad("grid 2 2;letter 0 0 ^;", 1);
        Check.bad("grid 2 2;letter 0 0 ^0;", 1);
        Check.bad("grid 2 6;letter ^2 5 a;", 2);
        Check.bad("grid 6 2;letter 5 ^2 a;", 2);
        Check.bad("grid 2 6;block ^2 5;", 2);
        Check.bad("grid 6 2;block 5 ^2;", 2);
    }

    private static void codesOfWords() {
        String thirty = "grid 2 2;" + Check.words(30);
        Check.bad(thirty + "^word a;", 5);
        Check.bad(thirty + "^word ba;", 5);
        Check.bad(thirty + "^word 5;", 5);
        Check.bad("grid 2 2;" + Check.words(29) + "word ^ba;", 3);
        Check.bad("grid 2 2;" + Check.words(29) + "word ^b;", 2);
        Check.bad("grid 2 2;word ^5;", 1);
    }

    private static void codesOfGuesses() {
        String text = APART + "word abc;word abd;word xbc;word ab;letter 0 0 x;";
        Check.bad(text + "guess ^2 abc;", 4);
        Check.bad(text + "guess ^99999999999 abc;", 4);
        Check.bad(text + "guess ^abc;", 1);
        Check.bad(text + "guess 1 ^abe;", 4);
        Check.bad(text + "guess 1 ^a;", 4);
        Check.bad(text + "guess 1 ^abcabcabc;", 4);
        Check.bad(text + "guess 1 ^ab;", 6);
        Check.bad(text + "guess 0 ^xbc;", 6);
        Check.bad(text + "guess 1 ^xbc;", 6);
        Check.bad(text + "guess 1 abc;guess 1 ^abd;", 6);
        Check.same("section 5 not refused", Check.loaded(text + "guess 1 abd;").level(), 1);
        Check.bad(NO_SLOTS + "word ab;guess ^0 ab;", 4);
        Check.bad("grid 2 2;guess 0 ^ab;", 4);
    }

    private static void blockAndBack() {
        Check.bad("grid 2 2;word ab;^block 0 0;", 6);
        Check.bad("grid 2 2;letter 1 1 a;^block 0 0;", 6);
        Check.bad("grid 6 6;letter 5 5 a;^block 5 5;", 6);
        Check.bad("grid 2 2;block 0 0;block 0 ^0;", 3);
        Check.same("section 5 all cells", Check.loaded("grid 2 2;block 0 0;block 1 0;solve 9;block 0 1;block 1 1;").state(), 0);
        String text = APART + "word abc;word abd;word abe;";
        Check.same("section 5 as many as there are", Check.loaded(text + "guess 0 abc;back;").takenBack(), 1);
        Check.bad(text + "guess 0 abc;back;^back;", 6);
        Check.bad(text + "guess 0 abc;guess 1 abd;back;back;^back;", 6);
        Check.bad(text + "^back;", 6);
    }

    private static void statementsCountBeforeTheError() {
        // what the statements before the error have done decides about the later ones, but not about the state
        Check.bad(APART + "word abc;word abd;guess 0 abc;guess 1 ^abd;", 6);
        Check.bad("grid 6 6;^grid", 1);
        Check.bad("grid 6 6;word abc;word ^abc;", 3);
    }

    // ---- texts

    /** One slot across of this length, in the first row. */
    private static String strip(int length) {
        StringBuilder text = new StringBuilder("grid ").append(length).append(" 2;");
        for (int x = 0; x < length; x++) {
            text.append("block ").append(x).append(" 1;");
        }
        return text.toString();
    }
}
