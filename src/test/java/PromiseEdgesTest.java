/** The promises in their order: the edges of their arguments, what they answer when there is nothing, and refused calls. */
public final class PromiseEdgesTest {
    interface OfSlot {
        void ask(ShopCross shop, int slot);
    }

    /** Two slots across of three cells, apart from each other. */
    private static final String APART = "grid 3 3;block 0 1;block 1 1;block 2 1;";
    private static final String NO_SLOTS = "grid 2 2;block 0 0;block 1 1;";
    /** One slot across of three cells. */
    private static final String ONE = "grid 3 2;block 0 1;block 1 1;block 2 1;";
    private static final String ALL_BLOCKED = "grid 2 2;block 0 0;block 0 1;block 1 0;block 1 1;";
    private static final String SQUARE = "grid 2 2;word ab;word cd;word ac;word bd;";
    private static final int[] FAR = {Integer.MIN_VALUE, Integer.MIN_VALUE + 1, -256, -2, 256, 1 << 16, 1 << 30, Integer.MAX_VALUE - 1,
        Integer.MAX_VALUE};

    public static void main(String[] args) {
        newObject();
        appendInput();
        truncateInput();
        loadAndItsError();
        findWord();
        cells();
        sureLetter();
        slotAt();
        slots();
        crossings();
        words();
        letters();
        candidateAt();
        levels();
        bestSlotAndWord();
        guessRefusal();
        leftAfterAndWouldStick();
        emptySlotAndSums();
        stepsToEnd();
        counters();
        shares();
        addWord();
        setLetter();
        guess();
        takeBack();
        stepAndSolve();
        output();
        saveAndRestore();
        Check.end("PromiseEdgesTest");
    }

    private static void newObject() {
        ShopCross shop = new ShopCross();
        Check.element("1 an empty output", () -> shop.outputByte(0));
        Check.argument("1 an empty input buffer", () -> shop.truncateInput(1));
        Check.state("1 no saved states", () -> shop.restore(0));
        Check.state("1 no saved states", () -> shop.restore(1));
        Check.state("1 nothing is remembered", () -> shop.undo());
        Check.same("1 no error", shop.errorCode() * 10 + shop.errorPosition(), -1);
        Check.same("1 the input buffer is empty", shop.findWord(), -1);
        Check.argument("1 an empty text", () -> shop.load());
        shop.setLetter(0, 0, 0);
        Check.same("1 another object has its own state", new ShopCross().givenLetter(0, 0), 'k');
    }

    private static void appendInput() {
        ShopCross shop = new ShopCross();
        for (int length = 20; length <= 600; length += 20) {
            Check.same("2 up to 600", shop.appendInput(-1, -1, -1, -1, -1), length);
        }
        Check.state("2 greater than 600", () -> shop.appendInput(-1, -1, -1, -1, -1));
        for (int length = 599; length > 580; length--) {
            shop.truncateInput(length);
            Check.state("2 greater than 600 from " + length, () -> shop.appendInput(0, 0, 0, 0, 0));
            Check.same("2 nothing is appended", shop.truncateInput(length), length);
        }
        shop.truncateInput(580);
        Check.same("2 just 600", shop.appendInput(0, 0, 0, 0, 0), 600);
        shop.truncateInput(0);
        shop.appendInput(0x6b696c6e, 0x6c616e65, 0x6c696e65, 0x6b616c65, 0x6c696d65);
        Check.same("2 twenty letters are no word", shop.findWord(), -1);
        Check.same("2 the most significant byte first", shop.truncateInput(4) * 100 + shop.findWord(), 400);
    }

    private static void truncateInput() {
        ShopCross shop = new ShopCross();
        Check.same("3 0 of 0", shop.truncateInput(0), 0);
        Check.argument("3 1 of 0", () -> shop.truncateInput(1));
        Check.argument("3 -1 of 0", () -> shop.truncateInput(-1));
        Check.put(shop, "kilnx");
        for (int length : FAR) {
            Check.argument("3 " + length, () -> shop.truncateInput(length));
        }
        Check.argument("3 one more", () -> shop.truncateInput(6));
        Check.same("3 the current length", shop.truncateInput(5), 5);
        Check.same("3 nothing has been cut", shop.findWord(), -1);
        Check.same("3 one less", shop.truncateInput(4), 4);
        Check.same("3 the last byte has been cut", shop.findWord(), 0);
        Check.argument("3 it does not come back", () -> shop.truncateInput(5));
    }

    private static void loadAndItsError() {
        ShopCross shop = new ShopCross();
        String before = Check.view(shop);
        Check.argument("4 an empty text", () -> shop.load());
        Check.same("5 an empty text", shop.errorCode(), 1);
        Check.same("6 an empty text", shop.errorPosition(), 0);
        Check.put(shop, "grid 2 2");
        Check.argument("4 it ends too early", () -> shop.load());
        Check.same("5 the latest call", shop.errorCode() * 10 + shop.errorPosition(), 18);
        Check.argument("4 the buffer is empty after an error", () -> shop.load());
        Check.same("6 an empty text again", shop.errorPosition(), 0);
        Check.same("4 the state does not change", Check.view(shop), before);
        Check.put(shop, "grid 2 2;");
        Check.same("4 no words", shop.load(), 0);
        Check.same("5 no error", shop.errorCode(), 0);
        Check.same("6 no error", shop.errorPosition(), -1);
        Check.argument("4 the buffer is empty after success", () -> shop.truncateInput(1));
        Check.argument("4 and so its text has an error", () -> shop.load());
        shop.undo();
        Check.same("4 the failed calls are not remembered", Check.view(shop), before);
        Check.same("5 undo leaves the error", shop.errorCode(), 1);
        Check.put(shop, "grid 2 2;" + Check.words(30));
        Check.same("4 thirty words", shop.load(), 30);
        shop.save(0);
        Check.put(shop, "grid 2 2 grid");
        Check.argument("4 an error", () -> shop.load());
        shop.restore(0);
        Check.same("5 restore leaves the error", shop.errorCode() * 100 + shop.errorPosition(), 109);
    }

    private static void findWord() {
        ShopCross shop = new ShopCross();
        String[] none = {"", "k", "kil", "kilnk", "kilnlane", "KILN", "kiln\0", "\0kiln", "kiln\n", "kiln ", "k iln", "ki\u00ecn", "zz"};
        for (String text : none) {
            Check.put(shop, text);
            Check.same("11 not a word: " + text, shop.findWord(), -1);
            Check.same("11 the buffer stays", shop.truncateInput(text.length()), text.length());
        }
        Check.put(shop, "lint");
        Check.same("11 the last word", shop.findWord(), 11);
        Check.same("11 asked again", shop.findWord(), 11);
        Check.put(shop, "zzzzzz");
        shop.addWord(Check.number("zzzzzz"));
        Check.same("11 the longest word", shop.findWord(), 12);
        shop.addWord(Check.number("zz"));
        shop.truncateInput(2);
        Check.same("11 the beginning of another word", shop.findWord(), 13);
        Check.put(shop, "grid 2 2;");
        shop.load();
        Check.put(shop, "kiln");
        Check.same("11 there are no words", shop.findWord(), -1);
        StringBuilder full = new StringBuilder();
        while (full.length() < 600) {
            full.append("kiln");
        }
        Check.put(shop, full.toString());
        Check.same("11 a full buffer", shop.findWord(), -1);
    }

    private static void cells() {
        for (int[] size : new int[][] {{2, 6}, {6, 2}, {3, 4}}) {
            ShopCross shop = Check.loaded("grid " + size[0] + " " + size[1] + ";letter 0 0 a;letter " + (size[0] - 1) + " "
                    + (size[1] - 1) + " z;");
            noCell(shop, -1, 0);
            noCell(shop, 0, -1);
            noCell(shop, size[0], 0);
            noCell(shop, 0, size[1]);
            noCell(shop, size[0], size[1] - 1);
            noCell(shop, size[0] - 1, size[1]);
            for (int far : FAR) {
                noCell(shop, far, 0);
                noCell(shop, 0, far);
                noCell(shop, far, far);
            }
            Check.same("13 the first cell", shop.givenLetter(0, 0), 97);
            Check.same("13 the last cell", shop.givenLetter(size[0] - 1, size[1] - 1), 122);
            Check.same("13 none", shop.givenLetter(1, 0), 0);
            Check.same("12 the first cell", shop.isBlocked(0, 0), false);
            Check.same("12 the last cell", shop.isBlocked(size[0] - 1, size[1] - 1), false);
        }
        ShopCross ends = Check.loaded("grid 6 6;block 0 0;block 5 5;block 5 0;block 0 5;");
        for (int x = 0; x < 6; x++) {
            for (int y = 0; y < 6; y++) {
                Check.same("12 the corners", ends.isBlocked(x, y), x % 5 == 0 && y % 5 == 0);
                Check.same("13 none", ends.givenLetter(x, y), 0);
            }
        }
    }

    private static void noCell(ShopCross shop, int x, int y) {
        String what = " no cell " + x + " " + y;
        Check.argument("12" + what, () -> shop.isBlocked(x, y));
        Check.argument("13" + what, () -> shop.givenLetter(x, y));
        Check.argument("14" + what, () -> shop.sureLetter(x, y));
        Check.argument("15" + what, () -> shop.slotAt(x, y, false));
        Check.argument("15" + what, () -> shop.slotAt(x, y, true));
        Check.argument("53" + what, () -> shop.setLetter(x, y, 0));
        Check.argument("53" + what, () -> shop.setLetter(x, y, 'a'));
    }

    private static void sureLetter() {
        Check.same("14 a", Check.loaded(ONE + "word abz;").sureLetter(0, 0), 97);
        Check.same("14 z", Check.loaded(ONE + "word abz;").sureLetter(2, 0), 122);
        Check.same("14 blocked", Check.loaded(ONE + "word abz;").sureLetter(0, 1), 0);
        Check.same("14 no slot", Check.loaded(NO_SLOTS + "letter 1 0 a;word ab;").sureLetter(1, 0), 0);
        Check.same("14 no candidates", Check.loaded(ONE + "letter 0 0 a;").sureLetter(0, 0), 0);
        Check.same("14 the letters differ", Check.loaded(ONE + "word abz;word abc;").sureLetter(2, 0), 0);
        Check.same("14 all have it", Check.loaded(ONE + "word abz;word abc;").sureLetter(1, 0), 'b');
        // the slot across is empty, the one down has one candidate, and the other way round
        Check.same("14 across has none", Check.loaded("grid 3 2;block 1 1;block 2 1;word ab;").sureLetter(0, 0), 0);
        Check.same("14 only down", Check.loaded("grid 3 2;block 1 1;block 2 1;word ab;").sureLetter(0, 1), 'b');
        Check.same("14 down has none", Check.loaded("grid 2 3;block 1 1;block 1 2;word ab;").sureLetter(0, 0), 0);
        Check.same("14 only across", Check.loaded("grid 2 3;block 1 1;block 1 2;word ab;").sureLetter(1, 0), 'b');
        // no round is done, so the two slots of the cell may have different letters
        ShopCross stuck = Check.loaded("grid 3 4;block 1 1;block 2 1;block 0 2;block 1 2;block 2 2;word abc;word xy;letter 0 3 q;");
        Check.same("14 each of two slots has one candidate", stuck.candidateCount(0) * 10 + stuck.candidateCount(1), 11);
        Check.same("14 across and down differ", stuck.sureLetter(0, 0), 0);
        Check.same("14 across alone", stuck.sureLetter(1, 0), 'b');
        Check.same("14 down alone", stuck.sureLetter(0, 1), 'y');
        ShopCross alike = Check.loaded("grid 3 4;block 1 1;block 2 1;block 0 2;block 1 2;block 2 2;word abc;word ay;letter 0 3 q;");
        Check.same("14 across and down have the same", alike.sureLetter(0, 0), 'a');
    }

    private static void slotAt() {
        ShopCross shop = Check.loaded(ONE);
        for (int x = 0; x < 3; x++) {
            Check.same("15 across", shop.slotAt(x, 0, false), 0);
            Check.same("15 none down", shop.slotAt(x, 0, true), -1);
            Check.same("15 blocked", shop.slotAt(x, 1, false), -1);
            Check.same("15 blocked", shop.slotAt(x, 1, true), -1);
        }
        Check.same("15 a cell alone", Check.loaded(NO_SLOTS).slotAt(1, 0, false), -1);
        Check.same("15 a cell alone", Check.loaded(NO_SLOTS).slotAt(1, 0, true), -1);
        ShopCross full = Check.loaded("grid 6 6;");
        Check.same("15 the last cell", full.slotAt(5, 5, false), 11);
        Check.same("15 the last cell", full.slotAt(5, 5, true), 6);
        Check.same("15 the first cell", full.slotAt(0, 0, false), 0);
        Check.same("15 the first cell", full.slotAt(0, 0, true), 1);
    }

    private static void slots() {
        OfSlot[] calls = {(s, slot) -> s.firstX(slot), (s, slot) -> s.firstY(slot), (s, slot) -> s.lengthOf(slot),
            (s, slot) -> s.isDown(slot), (s, slot) -> s.crossingCount(slot), (s, slot) -> s.candidateCount(slot),
            (s, slot) -> s.isCandidate(slot, 0), (s, slot) -> s.bestWord(slot), (s, slot) -> s.guessRefusal(slot, 0),
            (s, slot) -> s.leftAfter(slot, 0), (s, slot) -> s.wouldStick(slot, 0)};
        OfSlot[] more = {(s, slot) -> s.crossingSlot(slot, 0), (s, slot) -> s.crossingPlace(slot, 0), (s, slot) -> s.candidateAt(slot, 0),
            (s, slot) -> s.crossingSlot(slot, -1), (s, slot) -> s.crossingPlace(slot, 9), (s, slot) -> s.candidateAt(slot, 99),
            (s, slot) -> s.guess(slot, 0), (s, slot) -> s.guess(slot, -1)};
        String most = "grid 6 6;block 2 0;block 2 1;block 0 2;block 1 2;block 4 2;block 5 2;block 3 3;block 2 4;block 2 5;";
        String[] texts = {ALL_BLOCKED, NO_SLOTS, ONE, APART, "grid 2 2;", "grid 6 6;", most};
        int[] counts = {0, 0, 1, 2, 4, 12, 22};
        for (int i = 0; i < texts.length; i++) {
            ShopCross shop = Check.loaded(texts[i] + "word ab;word abc;");
            Check.same("9 slotCount " + texts[i], shop.slotCount(), counts[i]);
            for (int slot = 0; slot < counts[i]; slot++) {
                for (OfSlot call : calls) {
                    call.ask(shop, slot);
                }
            }
            for (int j = 0; j < calls.length + more.length; j++) {
                OfSlot call = j < calls.length ? calls[j] : more[j - calls.length];
                String what = "16 to 54 no such slot " + texts[i] + " call " + j;
                for (int slot : new int[] {-1, counts[i], counts[i] + 1, 24, 25, 144}) {
                    Check.bounds(what, () -> call.ask(shop, slot));
                }
                for (int slot : FAR) {
                    Check.bounds(what, () -> call.ask(shop, slot));
                }
            }
        }
    }

    private static void crossings() {
        ShopCross none = Check.loaded(APART);
        Check.same("20 none", none.crossingCount(1), 0);
        ShopCross full = Check.loaded("grid 6 2;");
        Check.same("20 six", full.crossingCount(0), 6);
        Check.same("20 two", full.crossingCount(1), 2);
        Check.same("21 the last", full.crossingSlot(0, 5), 6);
        Check.same("22 the last", full.crossingPlace(0, 5), 5);
        Check.same("21 the last of two", full.crossingSlot(6, 1), 7);
        noCrossing(none, 0, 0);
        noCrossing(full, 0, 6);
        noCrossing(full, 1, 2);
        noCrossing(full, 1, -1);
        for (int index : FAR) {
            noCrossing(full, 0, index);
        }
        // the first cell of the slot across is in no slot down
        ShopCross later = Check.loaded("grid 3 2;block 0 1;");
        Check.same("20 two of three places", later.crossingCount(0), 2);
        Check.same("22 its own place, not the index", later.crossingPlace(0, 0) * 10 + later.crossingPlace(0, 1), 12);
        noCrossing(later, 0, 2);
    }

    private static void noCrossing(ShopCross shop, int slot, int index) {
        Check.element("21 no index " + index, () -> shop.crossingSlot(slot, index));
        Check.element("22 no index " + index, () -> shop.crossingPlace(slot, index));
    }

    private static void words() {
        for (int number : new int[] {0, 1, 29, 30}) {
            ShopCross shop = Check.loaded(APART + Check.words(number));
            Check.same("10 words", shop.wordCount(), number);
            for (int word = 0; word < number; word++) {
                int size = word < 26 ? 2 : 3;
                int w = word;
                Check.same("23 " + word, shop.wordLength(word), size);
                Check.same("24 the first letter", shop.letterOf(word, 0), 'b');
                Check.same("24 the last letter", shop.letterOf(word, size - 1), size == 2 ? 'a' + word : 'c');
                Check.element("24 no such place", () -> shop.letterOf(w, size));
                Check.element("24 no such place", () -> shop.letterOf(w, -1));
                for (int place : FAR) {
                    Check.element("24 no such place", () -> shop.letterOf(w, place));
                }
                Check.same("25 two letters or more", shop.prizeOf(word) >= 2, true);
                Check.same("29 " + word, shop.isCandidate(0, word), size == 3);
            }
            noWord(shop, -1);
            noWord(shop, number);
            noWord(shop, 31);
            noWord(shop, 32);
            for (int word : FAR) {
                noWord(shop, word);
            }
        }
    }

    private static void noWord(ShopCross shop, int word) {
        String what = " no word " + word;
        Check.bounds("23" + what, () -> shop.wordLength(word));
        Check.bounds("24" + what, () -> shop.letterOf(word, 0));
        Check.bounds("24 the word is first", () -> shop.letterOf(word, 6));
        Check.bounds("25" + what, () -> shop.prizeOf(word));
        Check.bounds("29" + what, () -> shop.isCandidate(0, word));
        Check.bounds("29 no slot and" + what, () -> shop.isCandidate(-1, word));
        Check.bounds("37" + what, () -> shop.guessRefusal(0, word));
        Check.bounds("38" + what, () -> shop.leftAfter(0, word));
        Check.bounds("39" + what, () -> shop.wouldStick(0, word));
        Check.bounds("54 it comes before the refusal", () -> shop.guess(0, word));
    }

    private static void letters() {
        ShopCross shop = Check.loaded("grid 2 2;word az;word aa;word za;");
        Check.same("26 a", shop.wordsWith(97), 3);
        Check.same("26 z", shop.wordsWith(122), 2);
        Check.same("26 none", shop.wordsWith('b'), 0);
        Check.same("27 a", shop.prizeOfLetter(97), 7);
        Check.same("27 z", shop.prizeOfLetter(122), 8);
        Check.same("27 none", shop.prizeOfLetter('b'), 10);
        Check.argument("26 96", () -> shop.wordsWith(96));
        Check.argument("26 123", () -> shop.wordsWith(123));
        Check.argument("26 0", () -> shop.wordsWith(0));
        Check.argument("27 96", () -> shop.prizeOfLetter(96));
        Check.argument("27 123", () -> shop.prizeOfLetter(123));
        Check.argument("27 0", () -> shop.prizeOfLetter(0));
        for (int letter : FAR) {
            Check.argument("26 " + letter, () -> shop.wordsWith(letter));
            Check.argument("27 " + letter, () -> shop.prizeOfLetter(letter));
        }
        ShopCross none = Check.loaded("grid 2 2;");
        Check.same("26 no words", none.wordsWith('a'), 0);
        Check.same("27 no words", none.prizeOfLetter('a'), 10);
    }

    private static void candidateAt() {
        ShopCross shop = Check.loaded(APART + "word abc;word ab;word abd;word abe;letter 0 2 x;");
        Check.same("28 three", shop.candidateCount(0), 3);
        Check.same("28 none", shop.candidateCount(1), 0);
        Check.same("30 ascending", shop.candidateAt(0, 0) * 100 + shop.candidateAt(0, 1) * 10 + shop.candidateAt(0, 2), 23);
        Check.element("30 beyond", () -> shop.candidateAt(0, 3));
        Check.element("30 below 0", () -> shop.candidateAt(0, -1));
        Check.element("30 none at all", () -> shop.candidateAt(1, 0));
        for (int index : FAR) {
            Check.element("30 " + index, () -> shop.candidateAt(0, index));
            Check.element("30 " + index, () -> shop.candidateAt(1, index));
        }
        Check.same("29 not of this length", shop.isCandidate(0, 1), false);
        ShopCross all = Check.loaded("grid 2 2;block 0 1;block 1 1;" + Check.words(26));
        Check.same("28 all words", all.candidateCount(0), 26);
        Check.same("30 the last of all", all.candidateAt(0, 25), 25);
        Check.element("30 beyond all", () -> all.candidateAt(0, 26));
    }

    private static void levels() {
        ShopCross shop = Check.loaded(APART + "word abc;word abd;word abe;");
        for (int level = 0; level <= 2; level++) {
            Check.same("32 level", shop.level(), level);
            for (int guess = 1; guess <= level; guess++) {
                Check.same("33 " + guess, shop.guessedSlot(guess), guess - 1);
                Check.same("34 " + guess, shop.guessedWord(guess), 3 - guess);
            }
            noLevel(shop, -1);
            noLevel(shop, 0);
            noLevel(shop, level + 1);
            for (int far : FAR) {
                noLevel(shop, far);
            }
            if (level < 2) {
                shop.guess(level, 2 - level);
            }
        }
        shop.takeBack();
        noLevel(shop, 2);
        shop.setLetter(0, 0, 0);
        noLevel(shop, 1);
        shop.undo();
        Check.same("33 undone", shop.guessedSlot(1) * 10 + shop.guessedWord(1), 2);
    }

    private static void noLevel(ShopCross shop, int level) {
        Check.element("33 no level " + level, () -> shop.guessedSlot(level));
        Check.element("34 no level " + level, () -> shop.guessedWord(level));
    }

    private static void bestSlotAndWord() {
        Check.same("35 no slots", Check.loaded(ALL_BLOCKED).bestSlot(), -1);
        Check.same("35 none has more than one", Check.loaded(ONE + "word abc;").bestSlot(), -1);
        Check.same("35 none has any", Check.loaded(APART).bestSlot(), -1);
        Check.same("35 one has two", Check.loaded(APART + "word abc;word abd;letter 0 0 x;").bestSlot(), 1);
        Check.same("36 none", Check.loaded(ONE).bestWord(0), -1);
        Check.same("36 one, which is not the first", Check.loaded(ONE + "word ab;word abc;").bestWord(0), 1);
        Check.same("36 the smallest number of the greatest", Check.loaded(ONE + "word aaa;word abx;word abz;").bestWord(0), 1);
        // ten words with the same two letters: each word has the least prize
        Check.same("36 the least prize", Check.loaded("grid 2 2;block 0 1;block 1 1;word aba;word abab;word ababa;word baba;word abba;"
                + "word babb;word bab;word baa;word ab;word ba;word bbaa;").bestWord(0), 8);
        Check.same("36 the greatest prize", Check.loaded(ONE + "word aab;word baa;word jqx;").bestWord(0), 2);
    }

    private static void guessRefusal() {
        ShopCross shop = Check.loaded(APART + "word abc;word abd;word xbc;letter 0 0 x;");
        Check.same("37 not refused", shop.guessRefusal(1, 0), 0);
        Check.same("37 not a candidate", shop.guessRefusal(1, 2), 2);
        Check.same("37 the only one", shop.guessRefusal(0, 2), 3);
        Check.same("37 the only one is another", shop.guessRefusal(0, 0), 2);
        shop.guess(1, 0);
        Check.same("37 solved", shop.guessRefusal(0, 2) * 100 + shop.guessRefusal(1, 0) * 10 + shop.guessRefusal(1, 2), 111);
    }

    private static void leftAfterAndWouldStick() {
        ShopCross shop = Check.loaded(APART + "word abc;word abd;word xbc;letter 0 0 x;");
        int[][] refused = {{0, 0}, {0, 2}, {1, 2}};
        for (int[] guess : refused) {
            Check.same("38 refused", shop.leftAfter(guess[0], guess[1]), -1);
            Check.same("39 refused", shop.wouldStick(guess[0], guess[1]), false);
        }
        Check.same("38 solved", shop.leftAfter(1, 1), 2);
        Check.same("39 solved", shop.wouldStick(1, 1), false);
        // two slots that cross in their first cells: only bx is left for the other
        ShopCross cross = Check.loaded("grid 2 2;block 1 1;word ax;word ay;word az;word bx;word by;");
        Check.same("38 one is left for the other", cross.leftAfter(0, 4), 2);
        Check.same("39 one is left for the other", cross.wouldStick(0, 4), false);
        Check.same("38 two are left for the other", cross.leftAfter(1, 0), 3);
        Check.same("39 two are left for the other", cross.wouldStick(1, 0), false);
        ShopCross three = Check.loaded("grid 3 5;block 0 1;block 1 1;block 2 1;block 0 3;block 1 3;block 2 3;"
                + "word abc;word abd;letter 0 0 a;");
        Check.same("38 two words for three slots", three.leftAfter(0, 0), 1);
        Check.same("39 two words for three slots", three.wouldStick(0, 0), true);
        Check.same("39 it has not been guessed", three.level() * 10 + three.state(), 0);
        Check.same("39 nothing but load is remembered", Check.remembered(three), 1);
    }

    private static void emptySlotAndSums() {
        Check.same("40 no slots", Check.loaded(ALL_BLOCKED).emptySlot(), -1);
        Check.same("40 none", Check.loaded(ONE + "word abc;").emptySlot(), -1);
        Check.same("40 the first", Check.loaded(APART).emptySlot(), 0);
        Check.same("40 the last", Check.loaded(APART + "word abc;letter 0 2 x;").emptySlot(), 1);
        Check.same("41 no slots", Check.loaded(ALL_BLOCKED).candidatesLeft(), 0);
        Check.same("41 none", Check.loaded(APART).candidatesLeft(), 0);
        Check.same("41 of one slot alone", Check.loaded(APART + "word abc;letter 0 2 x;").candidatesLeft(), 1);
        Check.same("42 no slots", Check.loaded(ALL_BLOCKED).prizeNow(), 0);
        Check.same("42 none has just one", Check.loaded(ONE + "word abc;word abd;").prizeNow(), 0);
        Check.same("42 none has any", Check.loaded(APART).prizeNow(), 0);
        Check.same("42 one of two", Check.loaded(APART + "word abc;letter 0 2 x;").prizeNow(), 27);
        Check.same("42 the last of many words", Check.loaded(ONE + Check.words(26) + "word xyz;").prizeNow(), 8 + 8 + 8);
    }

    private static void stepsToEnd() {
        String[] texts = {ALL_BLOCKED, ONE + "word abc;", ONE + "solve 1;", ONE, ONE + "word abc;word abd;"};
        int[] steps = {0, 0, 0, 1, 1};
        int[] states = {0, 1, 3, 3, 1};
        for (int i = 0; i < texts.length; i++) {
            ShopCross shop = Check.loaded(texts[i]);
            String before = Check.view(shop);
            Check.same("43 " + texts[i], shop.stepsToEnd(), steps[i]);
            Check.same("44 " + texts[i], shop.stateAtEnd(), states[i]);
            Check.same("43 questions change nothing", Check.view(shop), before);
            Check.same("57 as many " + texts[i], shop.solve(200), steps[i]);
            Check.same("57 to this state " + texts[i], shop.state(), states[i]);
        }
    }

    private static void counters() {
        ShopCross shop = Check.loaded(APART + "word abc;word abd;word abe;guess 0 abc;back;solve 1;guess 1 abe;letter 0 0 a;");
        Check.same("45 including the text", shop.guesses(), 3);
        Check.same("46 including the text", shop.takenBack(), 1);
        Check.same("49 two were lost", shop.levelDifference(), 0);
        Check.state("54 refused", () -> shop.takeBack());
        Check.bounds("54 refused", () -> shop.guess(2, 0));
        Check.same("45 refused calls count nothing", shop.guesses() * 10 + shop.takenBack(), 31);
        shop.guess(0, 0);
        shop.setLetter(0, 0, 0);
        Check.same("49 lost once more", shop.guesses() * 10 + shop.levelDifference(), 40);
        Check.put(shop, "grid 2 2 2;");
        Check.argument("4 an error", () -> shop.load());
        Check.same("45 a load with an error counts from no new beginning", shop.guesses(), 4);
        Check.put(shop, "grid 2 2;");
        shop.load();
        Check.same("45 since the latest load", shop.guesses() + shop.takenBack() + shop.levelDifference(), 0);
        ShopCross stuck = Check.loaded("grid 2 3;word ab;");
        Check.same("47 0 if the state is 2", stuck.supportErrors() * 10 + stuck.doubleErrors(), 0);
        stuck.step();
        Check.same("47 0 if the state is 3", stuck.supportErrors() * 10 + stuck.doubleErrors(), 0);
        // the fifth slot of a former grid, which had the word 1 alone, does not count in a grid of four
        ShopCross fewer = Check.loaded("grid 2 3;word ab;word ef;word cd;word ace;word bdf;");
        Check.same("47 five slots", fewer.state() * 10 + fewer.slotCount(), 15);
        Check.put(fewer, SQUARE + "solve 1;");
        fewer.load();
        Check.same("47 four slots", fewer.state() * 10 + fewer.slotCount(), 14);
        Check.same("47 four slots", fewer.supportErrors(), 0);
        Check.same("48 four slots", fewer.doubleErrors(), 0);
        ShopCross none = Check.loaded(ALL_BLOCKED);
        Check.same("47 no slots", none.supportErrors() + none.doubleErrors() + none.levelDifference(), 0);
    }

    private static void shares() {
        Check.same("50 no cell is open", Check.loaded(ALL_BLOCKED).sureShare(), 0.0f);
        Check.same("50 no slots", Check.loaded(NO_SLOTS).sureShare(), 0.0f);
        Check.same("50 all are sure", Check.loaded(ONE + "word abc;").sureShare(), 1.0f);
        Check.same("50 one of three", Check.loaded(ONE + "word abc;word ade;").sureShare(), 1.0f / 3.0f);
        Check.same("50 it is a float", Check.loaded(ONE + "word abc;word abd;").sureShare(), (double) (2.0f / 3.0f));
        Check.same("51 no slots", Check.loaded(NO_SLOTS + "word ab;").averageCandidates(), 0.0);
        Check.same("51 all blocked", Check.loaded(ALL_BLOCKED).averageCandidates(), 0.0);
        Check.same("51 none", Check.loaded(ONE).averageCandidates(), 0.0);
        Check.same("51 one", Check.loaded(ONE + "word abc;").averageCandidates(), 1.0);
        Check.same("51 it is a double", Check.loaded("grid 2 3;block 1 0;block 1 2;word ba;word abc;word xb;word abx;")
                .averageCandidates(), 3.0 / 2.0);
        Check.same("51 half", Check.loaded(APART + "word abc;letter 0 2 x;").averageCandidates(), 0.5);
    }

    private static void addWord() {
        ShopCross shop = new ShopCross();
        String before = Check.view(shop);
        String[] right = {"aa", "az", "za", "zz", "aaaaaa", "zzzzzz"};
        int[] wrong = {0, 1, 26, 27, 31, 32, 32 * 26, 32 * 27 + 1, 32 + 27, 32 + 31, 32 * 32, 32 * 32 + 32, 32 * 32 + 1, 33 << 25, 27 << 25,
            Check.number("zzzzzz") + 1, Check.number("aaaaaa") - 1, Check.number("aaaaa") << 5, Check.number("abcdef") + (1 << 30),
            Check.number("ab") + (1 << 30), Check.number("ab") + (1 << 31), Check.number("ab") + (3 << 30), -1};
        for (int number : wrong) {
            Check.argument("52 not a word: " + number, () -> shop.addWord(number));
        }
        for (int number : FAR) {
            Check.argument("52 not a word: " + number, () -> shop.addWord(number == 256 || number == 1 << 16 ? 0 : number));
        }
        Check.state("52 there already", () -> shop.addWord(Check.number("kiln")));
        Check.same("52 refused calls change nothing", Check.view(shop), before);
        Check.state("52 they are not remembered", () -> shop.undo());
        for (int i = 0; i < right.length; i++) {
            Check.same("52 " + right[i], shop.addWord(Check.number(right[i])), 12 + i);
            Check.same("52 " + right[i], Check.word(shop, 12 + i), right[i]);
        }
        ShopCross full = Check.loaded("grid 2 2;" + Check.words(29));
        Check.same("52 the thirtieth", full.addWord(Check.number("xy")), 29);
        Check.state("52 the thirty-first", () -> full.addWord(Check.number("yx")));
        Check.state("52 the thirty-first, which is there", () -> full.addWord(Check.number("xy")));
        Check.argument("52 not a word, and there are thirty", () -> full.addWord(0));
        Check.same("52 thirty", full.wordCount(), 30);
    }

    private static void setLetter() {
        ShopCross shop = Check.loaded(ONE + "word abc;word zbc;");
        String before = Check.view(shop);
        for (int letter : new int[] {1, 48, 65, 90, 96, 123, -1}) {
            Check.argument("53 not a letter", () -> shop.setLetter(0, 0, letter));
            Check.argument("53 not a letter, and the cell is blocked", () -> shop.setLetter(0, 1, letter));
            Check.argument("53 not a letter, and no cell", () -> shop.setLetter(3, 0, letter));
        }
        for (int letter : FAR) {
            Check.argument("53 not a letter", () -> shop.setLetter(0, 0, letter));
        }
        Check.state("53 blocked", () -> shop.setLetter(0, 1, 'a'));
        Check.state("53 blocked, nothing to take away", () -> shop.setLetter(2, 1, 0));
        Check.same("53 refused calls change nothing", Check.view(shop), before);
        Check.same("53 they are not remembered", Check.remembered(shop), 1);
        Check.same("53 a", shop.setLetter(0, 0, 97), 0);
        Check.same("53 a", Check.candidates(shop, 0), "abc");
        Check.same("53 z in its place", shop.setLetter(0, 0, 122), 97);
        Check.same("53 z in its place", Check.candidates(shop, 0), "zbc");
        Check.same("53 taken away", shop.setLetter(0, 0, 0), 122);
        Check.same("53 taken away", Check.candidates(shop, 0), "abc zbc");
        Check.same("53 none was there", shop.setLetter(0, 0, 0), 0);
        Check.same("53 all four and load are remembered", shop.undo(), 4);
    }

    private static void guess() {
        ShopCross shop = Check.loaded(APART + "word abc;word abd;word xbc;letter 0 0 x;");
        String before = Check.view(shop);
        Check.state("54 not a candidate", () -> shop.guess(1, 2));
        Check.state("54 the only one", () -> shop.guess(0, 2));
        Check.bounds("54 no slot", () -> shop.guess(2, 0));
        Check.bounds("54 no word", () -> shop.guess(1, 3));
        Check.same("54 refused calls change nothing", Check.view(shop), before);
        Check.same("54 they are not remembered", Check.remembered(shop), 1);
        Check.same("54 solved", shop.guess(1, 0), 1);
        Check.state("54 the state", () -> shop.guess(1, 0));
        Check.bounds("54 no slot is first", () -> shop.guess(-1, 0));
        Check.same("54 one more is remembered", shop.undo(), 1);
        Check.same("54 undone", Check.view(shop), before);
    }

    private static void takeBack() {
        ShopCross shop = Check.loaded(SQUARE);
        Check.state("55 no guesses", () -> shop.takeBack());
        Check.same("55 it is not remembered", Check.remembered(shop), 1);
        shop.guess(0, 2);
        Check.same("55 from the solved state", shop.takeBack(), 1);
        Check.state("55 no guesses any more", () -> shop.takeBack());
        Check.same("55 load and one guess", shop.undo(), 2);
        Check.same("55 undone", shop.level(), 1);
        Check.same("55 again", shop.takeBack(), 1);
        ShopCross last = Check.loaded("grid 3 5;block 0 1;block 1 1;block 2 1;block 0 3;block 1 3;block 2 3;word abc;word abd;");
        last.guess(0, 0);
        Check.same("55 stuck", last.state(), 2);
        Check.same("55 stuck again without guesses", last.takeBack(), 2);
        Check.same("55 without guesses", last.level(), 0);
        Check.same("56 so it is hopeless", last.step(), 3);
        Check.state("55 hopeless", () -> last.takeBack());
    }

    private static void stepAndSolve() {
        ShopCross shop = Check.loaded("grid 3 5;block 0 1;block 1 1;block 2 1;block 0 3;block 1 3;block 2 3;word abc;word abd;");
        for (int most : FAR) {
            Check.argument("57 " + most, () -> shop.solve(most));
        }
        for (int most : new int[] {-1, 0, 201}) {
            Check.argument("57 " + most, () -> shop.solve(most));
        }
        Check.same("57 they are not remembered", Check.remembered(shop), 1);
        Check.same("57 1", shop.solve(1), 1);
        Check.same("57 one guess", shop.level(), 1);
        Check.same("57 200, but two are possible", shop.solve(200), 2);
        Check.same("57 hopeless", shop.state(), 3);
        Check.same("57 none", shop.solve(200), 0);
        Check.state("56 hopeless", () -> shop.step());
        Check.same("56 it is not remembered", shop.undo(), 3);
        Check.same("57 solve without steps is", shop.state(), 3);
        Check.same("57 undone", shop.undo() * 10 + shop.state(), 22);
        Check.same("57 undone", shop.undo() * 10 + shop.state(), 10);
    }

    private static void output() {
        ShopCross shop = Check.loaded("grid 6 3;block 0 2;block 1 2;block 2 2;block 3 2;block 4 2;block 5 2;");
        Check.element("59 empty", () -> shop.outputByte(0));
        for (int y : new int[] {-1, 3, 6}) {
            Check.argument("58 no such row", () -> shop.writeRow(y));
        }
        for (int y : FAR) {
            Check.argument("58 no such row", () -> shop.writeRow(y));
        }
        Check.element("59 a refused call writes nothing", () -> shop.outputByte(0));
        Check.same("58 the last row", shop.writeRow(2), 6);
        for (int position = 0; position < 6; position++) {
            Check.same("59 blocked", shop.outputByte(position), '#');
        }
        Check.element("59 beyond", () -> shop.outputByte(6));
        Check.element("59 below 0", () -> shop.outputByte(-1));
        for (int position : FAR) {
            Check.element("59 far", () -> shop.outputByte(position));
        }
        Check.argument("58 no such row", () -> shop.writeRow(3));
        Check.same("58 a refused call keeps the output", shop.outputByte(5), '#');
        Check.same("58 the first row", shop.writeRow(0), 6);
        Check.same("58 no letters", shop.outputByte(0) * 1000 + shop.outputByte(5), 46046);
        Check.same("58 nothing is remembered", Check.remembered(shop), 1);
        Check.same("58 a and z", Check.row(Check.loaded(ONE + "word abz;"), 0), "abz");
        Check.same("58 all blocked", Check.row(Check.loaded(ALL_BLOCKED), 1), "##");
        Check.same("58 no slots", Check.row(Check.loaded(NO_SLOTS + "letter 1 0 a;"), 0), "#.");
    }

    private static void saveAndRestore() {
        ShopCross shop = new ShopCross();
        for (int number : FAR) {
            Check.bounds("60 " + number, () -> shop.save(number));
            Check.bounds("61 " + number, () -> shop.restore(number));
        }
        for (int number : new int[] {-1, 2}) {
            Check.bounds("60 " + number, () -> shop.save(number));
            Check.bounds("61 no such slot is first", () -> shop.restore(number));
        }
        Check.state("61 empty", () -> shop.restore(0));
        Check.same("60 0", shop.save(0), 12);
        Check.state("61 the other is empty", () -> shop.restore(1));
        Check.state("61 refused calls are not remembered", () -> shop.undo());
        Check.put(shop, "grid 2 2;");
        shop.load();
        Check.same("60 no words", shop.save(1), 0);
        Check.same("61 twelve words", shop.restore(0), 12);
        Check.same("61 no words", shop.restore(1), 0);
        Check.same("61 both keep their content", shop.restore(0) * 100 + shop.restore(1), 1200);
        Check.same("61 load and four calls", shop.undo(), 4);
    }
}
