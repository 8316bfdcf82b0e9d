import java.util.ArrayDeque;

/** Section 6 and promises 60 to 62, sentence by sentence: what is remembered, what is saved, and what changes nothing. */
public final class StateEdgesTest {
    /** Two slots across of three cells, apart from each other. */
    private static final String APART = "grid 3 3;block 0 1;block 1 1;block 2 1;word abc;word abd;word abe;";
    private static final String NO_SLOTS = "grid 2 2;block 0 0;block 1 1;word ab;";
    private static final String FIRST = "grid 4 4;block 1 1;block 3 1;block 1 3;block 3 3;word kiln;word lane;word line;"
            + "word kale;word lime;word nine;word ivy;word tea;word ant;word nile;word keel;word lint;letter 0 0 k;guess 0 kiln;";

    public static void main(String[] args) {
        beforeTheFirstLoad();
        theLatestEight();
        theRingGoesRound();
        loadDoesNotDiscard();
        errorsDoNotDiscard();
        everyUndoableCall();
        callsThatChangeLittle();
        notUndoable();
        undoRestoresAll();
        partsThatAreNoState();
        savedStatesAreCopies();
        previousContentIsDiscarded();
        exceptionsChangeNothing();
        theFirstListedException();
        questionsChangeNothing();
        Check.end("StateEdgesTest");
    }

    private static void beforeTheFirstLoad() {
        Check.same("section 6 the text's state", Check.view(new ShopCross()), Check.view(Check.loaded(FIRST)));
        ShopCross shop = new ShopCross();
        Check.same("section 6 its guess", shop.level() * 100 + shop.guessedSlot(1) * 10 + shop.guessedWord(1), 100);
        Check.same("section 6 its guess can be taken back", shop.takeBack(), Check.loaded(FIRST + "back;").state());
        Check.same("section 6 and leaves what the text would", Check.view(shop), Check.view(Check.loaded(FIRST + "back;")));
        Check.put(shop, "grid");
        Check.argument("section 6 a load with an error", () -> shop.load());
        shop.undo();
        Check.same("section 6 is no successful load", Check.view(shop), Check.view(new ShopCross()));
    }

    private static void theLatestEight() {
        for (int calls = 0; calls <= 20; calls++) {
            ShopCross shop = new ShopCross();
            for (int i = 0; i < calls; i++) {
                shop.setLetter(i % 4, 0, 'a' + i);
            }
            int left = Math.min(calls, 8);
            while (left > 0) {
                left--;
                Check.same("62 left of " + calls, shop.undo(), left);
            }
            Check.state("62 none is left of " + calls, () -> shop.undo());
            int undone = Math.max(calls - 8, 0);
            int due = undone == 0 ? 'k' : 'a' + (undone - 1) / 4 * 4;
            Check.same("62 before the latest eight of " + calls, shop.givenLetter(0, 0), due);
        }
    }

    /** Calls and undos by turns, so that the place of the latest call goes round and round. */
    private static void theRingGoesRound() {
        ShopCross shop = new ShopCross();
        ArrayDeque<Integer> remembered = new ArrayDeque<>();
        int[] turns = {5, -2, 4, -7, 9, -3, 6, -8, 1, -1, 8, -8, 13, -5, 7, -4, 3, -7};
        int made = 0;
        for (int turn : turns) {
            for (int i = 0; i < turn; i++) {
                int letter = 'a' + made % 26;
                made++;
                remembered.addLast(shop.setLetter(3, 2, letter));
                if (remembered.size() > 8) {
                    remembered.removeFirst();
                }
            }
            for (int i = 0; i > turn; i--) {
                int former = remembered.removeLast();
                Check.same("62 left", shop.undo(), remembered.size());
                Check.same("62 the letter before", shop.givenLetter(3, 2), former);
            }
        }
        Check.same("62 all are undone", remembered.size(), 0);
        Check.state("62 none is left", () -> shop.undo());
    }

    private static void loadDoesNotDiscard() {
        ShopCross shop = new ShopCross();
        for (int i = 0; i < 7; i++) {
            shop.addWord(Check.number("q" + (char) ('a' + i)));
        }
        load(shop, APART);
        Check.same("62 load is the eighth", shop.undo(), 7);
        load(shop, APART);
        load(shop, NO_SLOTS);
        Check.same("62 load is the ninth, the first has gone", shop.undo(), 7);
        Check.same("62 the former text", shop.wordCount(), 3);
        for (int left = 6; left >= 0; left--) {
            Check.same("62 left", shop.undo(), left);
            Check.same("62 words", shop.wordCount(), 12 + left + 1);
        }
        Check.state("62 the first has gone", () -> shop.undo());
        for (int i = 0; i < 10; i++) {
            load(shop, "grid 2 2;" + "word ab;word ac;word ad;word ae;word af;word ag;word ah;word ai;word aj;word ak;".substring(0, 8 * i));
        }
        for (int left = 7; left >= 0; left--) {
            Check.same("62 loads alone", shop.undo(), left);
            Check.same("62 loads alone", shop.wordCount(), left + 1);
        }
    }

    private static void errorsDoNotDiscard() {
        ShopCross shop = new ShopCross();
        for (int i = 0; i < 8; i++) {
            shop.addWord(Check.number("q" + (char) ('a' + i)));
        }
        Check.put(shop, "grid 2 2;word");
        Check.argument("4 an error", () -> shop.load());
        Check.state("52 there already", () -> shop.addWord(Check.number("qa")));
        Check.argument("57 out of range", () -> shop.solve(0));
        Check.state("61 empty", () -> shop.restore(0));
        Check.state("55 no guesses", () -> shop.takeBack());
        Check.state("53 blocked", () -> shop.setLetter(1, 1, 0));
        Check.state("54 not a candidate", () -> shop.guess(0, 6));
        for (int left = 7; left >= 0; left--) {
            Check.same("62 all eight are left", shop.undo(), left);
        }
        Check.same("62 all eight are undone", Check.view(shop), Check.view(new ShopCross()));
    }

    private static void everyUndoableCall() {
        ShopCross shop = Check.loaded(APART);
        shop.save(1);
        String before = Check.view(shop);
        Check.Call[] calls = {() -> load(shop, "grid 2 2;"), () -> shop.addWord(Check.number("xyz")), () -> shop.setLetter(2, 2, 'e'),
            () -> shop.guess(1, 2), () -> shop.step(), () -> shop.solve(200)};
        for (int i = 0; i < calls.length; i++) {
            calls[i].run();
            Check.same("62 it has changed " + i, Check.view(shop).equals(before), false);
            shop.restore(1);
            Check.same("62 two are remembered " + i, shop.undo(), 2);
            Check.same("62 restore is undone " + i, Check.view(shop).equals(before), false);
            Check.same("62 one is remembered " + i, shop.undo(), 1);
            Check.same("62 undone " + i, Check.view(shop), before);
        }
        shop.guess(0, 0);
        String guessed = Check.view(shop);
        shop.takeBack();
        Check.same("62 takeBack", shop.undo(), 2);
        Check.same("62 takeBack is undone", Check.view(shop), guessed);
        Check.same("62 the guess, too", shop.undo(), 1);
        Check.same("62 the guess is undone", Check.view(shop), before);
    }

    private static void callsThatChangeLittle() {
        ShopCross shop = Check.loaded(NO_SLOTS);
        String before = Check.view(shop);
        shop.save(0);
        shop.solve(200);
        Check.same("62 solve without steps", Check.remembered(shop), 2);
        shop.setLetter(1, 0, 0);
        Check.same("62 no letter where none was", Check.remembered(shop), 3);
        shop.restore(0);
        Check.same("62 restore of the same", Check.remembered(shop), 4);
        load(shop, NO_SLOTS);
        Check.same("62 load of the same", Check.remembered(shop), 5);
        Check.same("62 nothing has changed", Check.view(shop), before);
        ShopCross none = Check.loaded("grid 2 2;");
        none.step();
        Check.same("62 a step that only gives up", none.undo(), 1);
        Check.same("62 it is undone", none.state(), 2);
    }

    private static void notUndoable() {
        ShopCross shop = new ShopCross();
        shop.save(0);
        shop.save(1);
        shop.writeRow(0);
        shop.appendInput(0, 0, 0, 0, 0);
        shop.truncateInput(0);
        Check.state("62 none of these is remembered", () -> shop.undo());
        shop.step();
        shop.undo();
        Check.state("62 undo is not remembered", () -> shop.undo());
    }

    private static void undoRestoresAll() {
        ShopCross shop = Check.loaded(APART + "guess 0 abe;back;guess 0 abd;guess 1 abe;");
        String before = Check.view(shop);
        shop.takeBack();
        shop.takeBack();
        shop.setLetter(0, 0, 'x');
        shop.solve(200);
        Check.same("62 hopeless", shop.state(), 3);
        shop.addWord(Check.number("abf"));
        Check.same("62 addWord", shop.undo() * 10 + shop.state(), 53);
        Check.same("62 solve", shop.undo() * 10 + shop.state(), 42);
        Check.same("62 setLetter", shop.undo() * 10 + shop.state(), 30);
        Check.same("62 takeBack", shop.undo() * 10 + shop.level(), 21);
        Check.same("62 takeBack", shop.undo(), 1);
        Check.same("62 all is as before", Check.view(shop), before);
        Check.same("62 the candidates of before each guess, too", shop.takeBack(), 1);
        Check.same("62 abe has left the second slot", Check.candidates(shop, 0) + ", " + Check.candidates(shop, 1), "abd, abc");
        Check.same("62 abd has left the first slot, and abe had before", shop.takeBack() * 10 + shop.takenBack(), 3);
        Check.same("62 abd has left the first slot, and abe had before", Check.candidates(shop, 0), "abc");
    }

    private static void partsThatAreNoState() {
        ShopCross shop = new ShopCross();
        shop.save(0);
        Check.put(shop, "grid 2 2;word a;");
        Check.argument("4 an error", () -> shop.load());
        shop.writeRow(1);
        shop.step();
        Check.put(shop, "lint");
        Check.Call[] calls = {() -> shop.undo(), () -> shop.restore(0), () -> shop.undo(), () -> shop.save(1), () -> shop.restore(1)};
        for (int i = 0; i < calls.length; i++) {
            calls[i].run();
            Check.same("section 6 the input buffer " + i, shop.findWord() * 10 + shop.truncateInput(4), 114);
            Check.same("section 6 the error " + i, shop.errorCode() * 100 + shop.errorPosition(), 214);
            Check.same("section 6 the output " + i, shop.outputByte(0) * 100 + shop.outputByte(3), 'a' * 100 + '#');
            Check.element("section 6 the output " + i, () -> shop.outputByte(4));
        }
        load(shop, NO_SLOTS);
        Check.same("section 6 load leaves the output", shop.outputByte(3), '#');
        Check.same("section 6 load leaves the saved states", shop.restore(0) + shop.restore(1), 24);
        shop.save(0);
        shop.undo();
        shop.undo();
        shop.undo();
        Check.same("section 6 undo leaves the saved states", shop.restore(0) + shop.restore(1), 24);
        Check.same("section 6 undo of load leaves the input buffer empty", shop.truncateInput(0), 0);
        Check.argument("section 6 undo of load leaves the input buffer empty", () -> shop.truncateInput(1));
    }

    private static void savedStatesAreCopies() {
        ShopCross shop = Check.loaded(APART + "guess 0 abd;");
        shop.save(0);
        String saved = Check.view(shop);
        shop.guess(1, 0);
        shop.takeBack();
        shop.takeBack();
        shop.addWord(Check.number("xyz"));
        shop.setLetter(0, 0, 'x');
        shop.restore(0);
        Check.same("61 as it was saved", Check.view(shop), saved);
        shop.takeBack();
        shop.setLetter(2, 2, 'e');
        shop.restore(0);
        Check.same("61 it keeps its content", Check.view(shop), saved);
        Check.same("61 the guess can be taken back", shop.takeBack(), 0);
        Check.same("61 its word leaves the slot", Check.candidates(shop, 0), "abc abe");
        shop.undo();
        Check.same("62 undo after restore", Check.view(shop), saved);
    }

    private static void previousContentIsDiscarded() {
        ShopCross shop = new ShopCross();
        shop.save(0);
        shop.save(1);
        load(shop, APART);
        Check.same("60 words", shop.save(0), 3);
        Check.same("61 the other keeps its content", shop.restore(1), 12);
        Check.same("61 the latest content", shop.restore(0), 3);
        shop.undo();
        shop.undo();
        shop.undo();
        Check.same("62 the state before load", Check.view(shop), Check.view(new ShopCross()));
        Check.same("61 save is not undone", shop.restore(0), 3);
    }

    private static void exceptionsChangeNothing() {
        String[] texts = {FIRST, APART + "guess 0 abe;back;", APART + "solve 200;", "grid 2 2;", "grid 2 2;solve 1;", NO_SLOTS};
        for (String text : texts) {
            ShopCross shop = Check.loaded(text);
            shop.writeRow(0);
            Check.put(shop, "kiln");
            String before = Check.view(shop) + shop.outputByte(0) + shop.findWord();
            int slots = shop.slotCount();
            Check.argument("section 6", () -> shop.truncateInput(5));
            Check.argument("section 6", () -> shop.writeRow(6));
            Check.element("section 6", () -> shop.outputByte(6));
            Check.argument("section 6", () -> shop.addWord(0));
            Check.argument("section 6", () -> shop.setLetter(0, 0, 1));
            Check.argument("section 6", () -> shop.setLetter(6, 0, 'a'));
            Check.bounds("section 6", () -> shop.guess(slots, 0));
            Check.bounds("section 6", () -> shop.guess(0, -1));
            Check.argument("section 6", () -> shop.solve(201));
            Check.bounds("section 6", () -> shop.save(2));
            Check.bounds("section 6", () -> shop.restore(2));
            Check.state("section 6", () -> shop.restore(0));
            if (shop.level() == 0) {
                Check.state("section 6", () -> shop.takeBack());
            }
            if (shop.stepsToEnd() == 0) {
                Check.state("section 6", () -> shop.step());
            }
            Check.same("section 6 " + text, Check.view(shop) + shop.outputByte(0) + shop.findWord(), before);
            Check.same("section 6 the input buffer", shop.truncateInput(4), 4);
            Check.same("section 6 what is remembered", Check.remembered(shop), 1);
        }
    }

    private static void theFirstListedException() {
        ShopCross shop = new ShopCross();
        shop.solve(200);
        Check.bounds("21 no slot, no index", () -> shop.crossingSlot(4, 9));
        Check.bounds("22 no slot, no index", () -> shop.crossingPlace(-1, 9));
        Check.bounds("24 no word, no place", () -> shop.letterOf(12, 6));
        Check.bounds("30 no slot, no index", () -> shop.candidateAt(4, 30));
        Check.argument("53 no letter, a blocked cell", () -> shop.setLetter(1, 1, 96));
        Check.bounds("54 no slot, and it is refused", () -> shop.guess(4, 0));
        Check.bounds("54 no word, and it is refused", () -> shop.guess(0, 12));
        Check.bounds("61 no slot for states, and it would be empty", () -> shop.restore(2));
        for (int i = 12; i < 30; i++) {
            shop.addWord(Check.number("q" + (char) ('a' + i - 12)));
        }
        Check.argument("52 no word, and there are thirty", () -> shop.addWord(26 * 32));
    }

    private static void questionsChangeNothing() {
        String[] texts = {FIRST, APART + "guess 0 abe;", APART + "solve 200;", "grid 2 2;", "grid 2 2;solve 1;", NO_SLOTS};
        for (String text : texts) {
            ShopCross shop = Check.loaded(text);
            shop.writeRow(0);
            Check.put(shop, "lint");
            String before = Check.view(shop);
            for (int slot = 0; slot < shop.slotCount(); slot++) {
                for (int word = 0; word < shop.wordCount(); word++) {
                    shop.leftAfter(slot, word);
                    shop.wouldStick(slot, word);
                    shop.guessRefusal(slot, word);
                }
                shop.bestWord(slot);
            }
            shop.stepsToEnd();
            shop.stateAtEnd();
            shop.supportErrors();
            shop.doubleErrors();
            shop.averageCandidates();
            shop.emptySlot();
            shop.findWord();
            shop.errorCode();
            shop.errorPosition();
            Check.same("section 6 " + text, Check.view(shop), before);
            Check.same("section 6 the input buffer", shop.truncateInput(4), 4);
            Check.same("section 6 the output", shop.outputByte(shop.columns() - 1) > 0, true);
            Check.same("section 6 nothing is remembered", Check.remembered(shop), 1);
            ShopCross twin = Check.loaded(text);
            twin.solve(200);
            shop.solve(200);
            Check.same("section 6 it goes on as if not asked", Check.view(shop), Check.view(twin));
        }
    }

    private static void load(ShopCross shop, String text) {
        Check.put(shop, text);
        shop.load();
    }
}
