/** Promises 28 to 44 and 54 to 57: candidates, narrowing, guesses and steps. */
public final class GuessTest {
    /** Two ways to fill it: the rows ab and cd with the columns ac and bd, or the other way round. */
    private static final String SQUARE = "grid 2 2;word ab;word cd;word ac;word bd;";
    /** Two slots across, apart from each other. */
    private static final String APART = "grid 3 3;block 0 1;block 1 1;block 2 1;";
    /** It takes 213 steps until a step is refused. */
    private static final String LONG = "grid 4 4;word accb;word cccc;word accc;word ccaa;word baca;word baaa;word abab;word acbb;"
            + "word aaac;word caab;word babb;word bccc;word bbcb;word aacc;word bbba;word acaa;";

    public static void main(String[] args) {
        candidates();
        noRoundWithAnEmptySlot();
        singlesAtOnce();
        roundsAtOnce();
        singlesOneAfterAnother();
        nothingOfAnotherGrid();
        narrowedToTheEnd();
        states();
        levels();
        bestSlot();
        bestWord();
        refusals();
        afterGuesses();
        sums();
        guess();
        takeBack();
        step();
        hopeless();
        noSlots();
        solve();
        longWay();
        Check.end("GuessTest");
    }

    private static void candidates() {
        ShopCross shop = new ShopCross();
        int[] counts = {1, 1, 4, 4};
        for (int slot = 0; slot < 4; slot++) {
            Check.same("28", shop.candidateCount(slot), counts[slot]);
        }
        int[] due = {1, 2, 4, 11};
        for (int word = 0, index = 0; word < 12; word++) {
            boolean in = index < 4 && due[index] == word;
            Check.same("29 " + word, shop.isCandidate(2, word), in);
            if (in) {
                Check.same("30 " + index, shop.candidateAt(2, index), word);
                index++;
            }
        }
        Check.element("30 beyond", () -> shop.candidateAt(2, 4));
        Check.element("30 beyond", () -> shop.candidateAt(0, 1));
        Check.element("30 below 0", () -> shop.candidateAt(0, -1));
        Check.element("30 far below 0", () -> shop.candidateAt(0, Integer.MIN_VALUE));
        Check.element("30 far beyond", () -> shop.candidateAt(0, Integer.MAX_VALUE));
        for (int slot : new int[] {-1, 4, Integer.MIN_VALUE, Integer.MAX_VALUE}) {
            Check.bounds("28", () -> shop.candidateCount(slot));
            Check.bounds("29", () -> shop.isCandidate(slot, 0));
            Check.bounds("30", () -> shop.candidateAt(slot, 0));
            Check.bounds("37", () -> shop.guessRefusal(slot, 0));
            Check.bounds("38", () -> shop.leftAfter(slot, 0));
            Check.bounds("39", () -> shop.wouldStick(slot, 0));
            Check.bounds("54", () -> shop.guess(slot, 0));
        }
        Check.bounds("29 no such word", () -> shop.isCandidate(0, 12));
    }

    private static void noRoundWithAnEmptySlot() {
        // no word fits down, so the word stays in all three slots across
        ShopCross shop = Check.loaded("grid 2 3;word ab;");
        Check.same("section 3 left", shop.candidatesLeft(), 3);
        Check.same("31 stuck", shop.state(), 2);
        Check.same("40 emptySlot", shop.emptySlot(), 1);
        Check.element("30 none", () -> shop.candidateAt(1, 0));
        Check.same("36 none", shop.bestWord(1), -1);
        Check.same("36 one", shop.bestWord(0), 0);
    }

    private static void singlesAtOnce() {
        // the only word leaves both slots
        ShopCross shop = Check.loaded(APART + "word abc;");
        Check.same("section 3 left", shop.candidatesLeft(), 0);
        Check.same("40 emptySlot", shop.emptySlot(), 0);
        // by a given letter one slot has one word, which leaves the other
        ShopCross one = Check.loaded(APART + "word abc;word xyz;word xbc;letter 0 2 a;");
        Check.same("section 3", Check.candidates(one, 0), "xyz xbc");
        Check.same("section 3", Check.candidates(one, 1), "abc");
        // three slots with the same two: none of them has just one
        ShopCross two = Check.loaded(APART + "word abc;word abd;");
        Check.same("section 3", two.candidatesLeft(), 4);
    }

    private static void roundsAtOnce() {
        // ...##.
        // .#.##.
        // .####.
        // .###.#
        // ####.#
        // .....#
        // In the first round bqs leaves slot 0 by slot 2, and slots 4 and 5 leave each other without candidates.
        // So there is no second round: bbbb stays in slot 1, for which bqs was there when the round began;
        // but aqr leaves slot 3, for slot 0 has just this one when the crossings have been looked at.
        ShopCross shop = Check.loaded("grid 6 6;block 3 0;block 4 0;block 1 1;block 3 1;block 4 1;block 1 2;block 2 2;block 3 2;"
                + "block 4 2;block 1 3;block 2 3;block 3 3;block 5 3;block 0 4;block 1 4;block 2 4;block 3 4;block 5 4;block 5 5;"
                + "word aqr;word bqs;word aaaa;word bbbb;word rz;word vwxyz;");
        String[] due = {"aqr", "aaaa bbbb", "rz", "bqs", "", ""};
        for (int slot = 0; slot < due.length; slot++) {
            Check.same("section 3 slot " + slot, Check.candidates(shop, slot), due[slot]);
        }
        Check.same("40 the smallest number", shop.emptySlot(), 4);
        Check.same("31 stuck", shop.state(), 2);
    }

    private static void singlesOneAfterAnother() {
        // three slots across, apart from each other: abc leaves slots 1 and 2, then abd leaves slot 2
        ShopCross shop = Check.loaded("grid 3 5;block 0 1;block 1 1;block 2 1;block 0 3;block 1 3;block 2 3;"
                + "word abc;word abd;word xbe;letter 2 0 c;letter 0 2 a;");
        Check.same("section 3", Check.candidates(shop, 0), "abc");
        Check.same("section 3", Check.candidates(shop, 1), "abd");
        Check.same("section 3", Check.candidates(shop, 2), "xbe");
        Check.same("31 solved", shop.state(), 1);
    }

    private static void nothingOfAnotherGrid() {
        ShopCross shop = new ShopCross();
        for (String words : new String[] {"word ab;", "word ab;word ac;word ad;"}) {
            for (String small : new String[] {SQUARE, SQUARE + "solve 1;"}) {
                Check.put(shop, "grid 2 6;" + words);
                shop.load();
                Check.same("41 six slots across have candidates", shop.candidatesLeft(), 6 * shop.wordCount());
                Check.put(shop, small);
                shop.load();
                Check.same("a smaller grid", Check.view(shop), Check.view(Check.loaded(small)));
            }
        }
        String most = "grid 6 6;block 2 0;block 2 1;block 0 2;block 1 2;block 4 2;block 5 2;block 3 3;block 2 4;block 2 5;";
        Check.put(shop, most + "word ab;word ac;word abc;word abd;word ba;word ca;word cba;word dba;solve 200;");
        shop.load();
        Check.same("9 the most slots", shop.slotCount(), 22);
        Check.put(shop, "grid 6 2;");
        shop.load();
        Check.put(shop, most);
        shop.load();
        Check.same("41 no words, no candidates", shop.candidatesLeft(), 0);
        Check.same("a grid without words", Check.view(shop), Check.view(Check.loaded(most)));
    }

    private static void narrowedToTheEnd() {
        ShopCross shop = Check.loaded(SQUARE);
        String[] due = {"ab ac", "ab ac", "cd bd", "cd bd"};
        for (int slot = 0; slot < due.length; slot++) {
            Check.same("section 3 slot " + slot, Check.candidates(shop, slot), due[slot]);
        }
        Check.same("31 open", shop.state(), 0);
        shop.setLetter(1, 0, 'c');
        String[] solved = {"ac", "ab", "cd", "bd"};
        for (int slot = 0; slot < solved.length; slot++) {
            Check.same("section 3 slot " + slot, Check.candidates(shop, slot), solved[slot]);
        }
        Check.same("31 solved", shop.state(), 1);
    }

    private static void states() {
        Check.same("31 open", new ShopCross().state(), ShopCross.OPEN);
        Check.same("31 solved", Check.loaded(SQUARE + "solve 1;").state(), ShopCross.SOLVED);
        Check.same("31 stuck", Check.loaded("grid 2 2;").state(), ShopCross.STUCK);
        Check.same("31 hopeless", Check.loaded("grid 2 2;solve 1;").state(), ShopCross.HOPELESS);
        Check.same("31 without slots", Check.loaded("grid 2 2;block 0 0;block 1 1;").state(), ShopCross.OPEN);
    }

    private static void levels() {
        ShopCross shop = new ShopCross();
        Check.same("32", shop.level(), 1);
        Check.same("33", shop.guessedSlot(1), 0);
        Check.same("34", shop.guessedWord(1), 0);
        shop.guess(3, 1);
        Check.same("32", shop.level(), 2);
        Check.same("33", shop.guessedSlot(2), 3);
        Check.same("34", shop.guessedWord(2), 1);
        Check.same("33 the former guess", shop.guessedSlot(1), 0);
        for (int level : new int[] {0, 3, -1, 24, 25, Integer.MIN_VALUE, Integer.MAX_VALUE}) {
            Check.element("33 " + level, () -> shop.guessedSlot(level));
            Check.element("34 " + level, () -> shop.guessedWord(level));
        }
        shop.takeBack();
        Check.element("33 no longer", () -> shop.guessedSlot(2));
        Check.element("34 no longer", () -> shop.guessedWord(2));
        shop.takeBack();
        Check.same("32", shop.level(), 0);
        Check.element("33 none", () -> shop.guessedSlot(1));
        Check.element("34 none", () -> shop.guessedWord(1));
    }

    private static void bestSlot() {
        Check.same("35 the smaller number of 4 and 4", new ShopCross().bestSlot(), 2);
        Check.same("35 the fewest candidates", Check.loaded(APART + "word abc;word abd;word xbc;word abe;letter 0 2 a;").bestSlot(), 1);
        Check.same("35 the smaller number", Check.loaded(APART + "word abc;word abd;").bestSlot(), 0);
        StringBuilder thirty = new StringBuilder("grid 2 3;block 0 1;block 1 1;");
        for (int i = 0; i < 30; i++) {
            thirty.append("word ").append((char) ('a' + i % 6)).append((char) ('a' + i / 6)).append(';');
        }
        Check.same("28 thirty candidates", Check.loaded(thirty.toString()).candidateCount(1), 30);
        Check.same("30 the last of thirty", Check.loaded(thirty.toString()).candidateAt(1, 29), 29);
        Check.same("35 thirty candidates", Check.loaded(thirty.toString()).bestSlot(), 0);
        Check.same("35 solved", Check.loaded(SQUARE + "solve 1;").bestSlot(), -1);
        Check.same("35 no slots", Check.loaded("grid 2 2;block 0 0;block 1 1;").bestSlot(), -1);
        Check.same("35 stuck", Check.loaded("grid 3 2;word abc;word abd;word abe;").bestSlot(), 0);
        Check.same("35 all empty", Check.loaded("grid 3 2;").bestSlot(), -1);
    }

    private static void bestWord() {
        ShopCross shop = new ShopCross();
        Check.same("36 one", shop.bestWord(0), 0);
        Check.same("36 lime has the m", shop.bestWord(2), 4);
        Check.same("36 the smallest number", Check.loaded(SQUARE).bestWord(0), 0);
        ShopCross equal = Check.loaded(APART + "word aaa;word abc;word acb;word abd;");
        // a is in 4 words, b in 3, c in 2, d in 1: aaa 18, abc and acb 21, abd 22
        Check.same("36 the greatest prize", equal.bestWord(0), 3);
        ShopCross two = Check.loaded(APART + "word aaa;word abc;word acb;word aab;");
        // b is in 3, c in 2: abc and acb 21, aab 19
        Check.same("36 the smallest number of two", two.bestWord(1), 1);
    }

    private static void refusals() {
        ShopCross shop = new ShopCross();
        Check.same("37 none", shop.guessRefusal(2, 4), 0);
        Check.same("37 not a candidate", shop.guessRefusal(2, 0), 2);
        Check.same("37 not a candidate, of one", shop.guessRefusal(0, 1), 2);
        Check.same("37 the only one", shop.guessRefusal(0, 0), 3);
        Check.state("54 not a candidate", () -> shop.guess(2, 0));
        Check.state("54 the only one", () -> shop.guess(0, 0));
        ShopCross solved = Check.loaded(SQUARE + "solve 1;");
        ShopCross stuck = Check.loaded("grid 3 2;word abc;word abd;word abe;");
        ShopCross hopeless = Check.loaded("grid 3 2;word abc;word abd;word abe;solve 1;");
        for (ShopCross other : new ShopCross[] {solved, stuck, hopeless}) {
            for (int word = 0; word < 3; word++) {
                int w = word;
                Check.same("37 the state is first", other.guessRefusal(0, word), 1);
                Check.same("38 refused", other.leftAfter(0, word), -1);
                Check.same("39 refused", other.wouldStick(0, word), false);
                Check.state("54 refused", () -> other.guess(0, w));
            }
        }
    }

    private static void afterGuesses() {
        ShopCross shop = new ShopCross();
        String before = Check.view(shop);
        // lime asks for a word with m at place 2 in slot 3, but there is no other
        Check.same("38 lime", shop.leftAfter(2, 4), 2);
        Check.same("39 lime", shop.wouldStick(2, 4), true);
        // lane leaves line and lint
        Check.same("38 lane", shop.leftAfter(3, 1), 5);
        Check.same("39 lane", shop.wouldStick(3, 1), false);
        Check.same("39 lime, asked first", new ShopCross().wouldStick(2, 4), true);
        Check.same("39 lime, asked after lane", shop.wouldStick(2, 4), true);
        Check.same("38 not a candidate", shop.leftAfter(3, 0), -1);
        Check.same("38 the only one", shop.leftAfter(1, 3), -1);
        Check.same("39 the only one", shop.wouldStick(1, 3), false);
        Check.same("38 questions change nothing", Check.view(shop), before);
        Check.state("38 questions are not remembered", () -> shop.undo());
        Check.same("38 solved", Check.loaded(SQUARE).leftAfter(0, 0), 4);
        Check.same("39 solved", Check.loaded(SQUARE).wouldStick(0, 0), false);
    }

    private static void sums() {
        ShopCross shop = new ShopCross();
        Check.same("40 none", shop.emptySlot(), -1);
        Check.same("41", shop.candidatesLeft(), 10);
        Check.same("42 kiln and kale", shop.prizeNow(), 15 + 17);
        shop.guess(3, 1);
        Check.same("41", shop.candidatesLeft(), 5);
        Check.same("42 and lane", shop.prizeNow(), 15 + 17 + 13);
        Check.same("42 none", Check.loaded(SQUARE).prizeNow(), 0);
        Check.same("42 solved", Check.loaded(SQUARE + "solve 1;").prizeNow(), 4 * 16);
        Check.same("42 stuck", Check.loaded("grid 2 3;word ab;").prizeNow(), 3 * 18);
        Check.same("41 stuck", Check.loaded("grid 2 2;").candidatesLeft(), 0);
        Check.same("40 stuck", Check.loaded("grid 2 2;").emptySlot(), 0);
    }

    private static void guess() {
        ShopCross shop = Check.loaded(SQUARE);
        Check.same("54 solved", shop.guess(0, 0), 1);
        Check.same("54", Check.candidates(shop, 1), "ac");
        Check.same("54", Check.candidates(shop, 3), "cd");
        Check.same("54", shop.level(), 1);
        Check.same("54", shop.guesses(), 1);
        ShopCross open = new ShopCross();
        Check.same("54 open", open.guess(2, 11), 0);
        Check.same("54 lint leaves slot 3, and lime by the crossing", Check.candidates(open, 3), "lane line");
        Check.same("54 stuck", new ShopCross().guess(2, 4), 2);
        Check.bounds("54 the slot is first", () -> open.guess(4, 0));
        Check.bounds("54 the word", () -> open.guess(0, 12));
        Check.same("54 one is remembered", open.undo(), 0);
        Check.same("54 undone", open.candidatesLeft(), 10);
    }

    private static void takeBack() {
        ShopCross shop = Check.loaded(SQUARE);
        Check.state("55 no guesses", () -> shop.takeBack());
        shop.guess(0, 0);
        Check.same("55 ab leaves slot 0, so the other way is left", shop.takeBack(), 1);
        Check.same("55", Check.candidates(shop, 0), "ac");
        Check.same("55", Check.candidates(shop, 3), "bd");
        Check.same("55", shop.level(), 0);
        Check.same("55", shop.takenBack(), 1);
        Check.state("55 no guesses any more", () -> shop.takeBack());
        ShopCross first = new ShopCross();
        first.guess(2, 11);
        first.guess(3, 2);
        Check.same("55 the latest guess is taken back", first.takeBack(), 1);
        Check.same("55 one is left", Check.candidates(first, 3), "lane");
        Check.same("55 the former guess stands", first.guessedWord(2), 11);
        Check.same("55 the candidates of before, without lint", first.takeBack(), 0);
        Check.same("55 slot 2", Check.candidates(first, 2), "lane line lime");
        Check.same("55 slot 3", Check.candidates(first, 3), "lane line lime lint");
        first.takeBack();
        Check.same("55 kiln leaves slot 0 alone", Check.candidates(first, 0) + ", " + Check.candidates(first, 1), "kale, kiln");
        ShopCross stuck = new ShopCross();
        stuck.guess(2, 4);
        Check.same("55 out of the stuck state", stuck.takeBack(), 0);
        Check.same("55 lime is gone", Check.candidates(stuck, 2), "lane line lint");
    }

    private static void step() {
        ShopCross shop = new ShopCross();
        Check.same("56 lime is guessed", shop.step(), 2);
        Check.same("56", shop.guessedWord(2) * 10 + shop.guessedSlot(2), 42);
        Check.same("56 lime is taken back", shop.step(), 0);
        Check.same("56", shop.level(), 1);
        Check.same("56 lint is guessed", shop.step(), 0);
        Check.same("56", shop.guessedWord(2), 11);
        Check.same("56 lane is guessed", shop.step(), 1);
        Check.same("56", shop.guessedWord(3) * 10 + shop.guessedSlot(3), 13);
        Check.state("56 solved", () -> shop.step());
        Check.same("56 all steps are remembered", shop.undo(), 3);
        Check.same("56 undone", shop.level(), 2);
    }

    private static void hopeless() {
        ShopCross shop = Check.loaded(APART + "word abc;");
        Check.same("43 one step", shop.stepsToEnd(), 1);
        Check.same("44 hopeless", shop.stateAtEnd(), 3);
        Check.same("56 hopeless", shop.step(), 3);
        Check.same("43 no step", shop.stepsToEnd(), 0);
        Check.same("44 hopeless", shop.stateAtEnd(), 3);
        Check.state("56 hopeless", () -> shop.step());
        Check.state("55 hopeless", () -> shop.takeBack());
        Check.same("57 hopeless", shop.solve(5), 0);
        shop.setLetter(0, 0, 0);
        Check.same("section 4 begun anew", shop.state(), 2);
        // a guess is tried first, then it is taken back, then there is no other word
        ShopCross guessed = Check.loaded("grid 3 2;block 1 1;block 2 1;word abc;word axy;word ab;word aq;letter 1 0 z;");
        Check.same("56 stuck without guesses", guessed.step(), 3);
    }

    private static void noSlots() {
        ShopCross shop = Check.loaded("grid 2 2;block 0 0;block 1 1;word ab;");
        Check.state("56 no slots", () -> shop.step());
        Check.same("43 no slots", shop.stepsToEnd(), 0);
        Check.same("44 no slots", shop.stateAtEnd(), 0);
        Check.same("57 no slots", shop.solve(200), 0);
        Check.same("41 no slots", shop.candidatesLeft(), 0);
        Check.bounds("54 no slots", () -> shop.guess(0, 0));
    }

    private static void solve() {
        ShopCross shop = new ShopCross();
        Check.same("43", shop.stepsToEnd(), 4);
        Check.same("44", shop.stateAtEnd(), 1);
        Check.same("57 some", shop.solve(1), 1);
        Check.same("57 some", shop.state(), 2);
        Check.same("57 some more", shop.solve(2), 2);
        Check.same("57 the rest", shop.solve(200), 1);
        Check.same("57 solved", shop.state(), 1);
        Check.same("57 none", shop.solve(1), 0);
        for (int most : new int[] {0, 201, -1, Integer.MIN_VALUE, Integer.MAX_VALUE}) {
            Check.argument("57 " + most, () -> shop.solve(most));
        }
        Check.same("57 the call without steps is remembered, the refused are not", shop.undo(), 3);
        Check.same("57 undone", shop.state(), 1);
        shop.undo();
        Check.same("57 undone", shop.stepsToEnd(), 1);
    }

    private static void longWay() {
        ShopCross shop = Check.loaded(LONG);
        Check.same("43 more than 200", shop.stepsToEnd(), -1);
        Check.same("57 200 of more", shop.solve(200), 200);
        Check.same("43 the rest", shop.stepsToEnd(), 13);
        shop.undo();
        Check.same("57 as many as wanted", shop.solve(12), 12);
        Check.same("43 201", shop.stepsToEnd(), -1);
        Check.same("44 201", shop.stateAtEnd(), 2);
        shop.step();
        Check.same("43 200", shop.stepsToEnd(), 200);
        Check.same("44 200", shop.stateAtEnd(), 3);
        Check.same("57 200", shop.solve(200), 200);
        Check.state("57 200", () -> shop.step());
        Check.same("45 as many guesses as taken back", shop.guesses(), shop.takenBack());
        Check.same("45 and one step more", shop.guesses() + shop.takenBack(), 212);
        Check.same("4 the text's own 200", Check.loaded(LONG + "solve 200;").stepsToEnd(), 13);
    }
}
