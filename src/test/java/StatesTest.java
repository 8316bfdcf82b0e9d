/** Promises 53 and 58 to 62: given letters, the output, saved states and undo. */
public final class StatesTest {
    private static final String SMALL = "grid 2 2;word ab;word cd;word ac;word bd;";

    public static void main(String[] args) {
        setLetter();
        wrongLetters();
        writeRow();
        outputStays();
        save();
        restore();
        undoEach();
        undoEight();
        notRemembered();
        Check.end("StatesTest");
    }

    private static void setLetter() {
        ShopCross shop = new ShopCross();
        Check.same("53 a former letter", shop.setLetter(0, 0, 'l'), 'k');
        Check.same("53", shop.givenLetter(0, 0), 'l');
        Check.same("53 no guesses", shop.level(), 0);
        Check.same("53 taken away", shop.setLetter(0, 0, 0), 'l');
        Check.same("53 none was there", shop.setLetter(0, 0, 0), 0);
        Check.same("53 first letter", shop.setLetter(3, 2, 97), 0);
        Check.same("53 last letter", shop.setLetter(3, 2, 122), 97);
        Check.same("53 last letter", shop.givenLetter(3, 2), 122);
        Check.same("53 no word ends so", shop.state(), 2);
        ShopCross same = new ShopCross();
        Check.same("53 the letter that is there", same.setLetter(0, 0, 'k'), 'k');
        Check.same("53 begins anew", same.level(), 0);
        Check.same("53 kiln or kale", same.candidateCount(0), 2);
        same.undo();
        Check.same("53 remembered", same.level(), 1);
        Check.same("53 none where none was", same.setLetter(1, 0, 0), 0);
        Check.same("53 begins anew", same.level(), 0);
        ShopCross narrow = new ShopCross();
        narrow.setLetter(2, 1, 'a');
        // slot 2 must be lane, so slot 3 has n or what lane has at place 2, and not lane
        Check.same("53 slot 2", Check.candidates(narrow, 2), "lane");
        Check.same("53 slot 3", Check.candidates(narrow, 3), "line lint");
        Check.same("53 a cell without slots", Check.loaded("grid 2 2;block 0 0;block 1 1;").setLetter(1, 0, 'q'), 0);
    }

    private static void wrongLetters() {
        ShopCross shop = new ShopCross();
        String before = Check.view(shop);
        for (int letter : new int[] {1, 96, 123, -1, 65, 97 + 256, Integer.MIN_VALUE, Integer.MAX_VALUE}) {
            Check.argument("53 " + letter, () -> shop.setLetter(0, 0, letter));
            Check.argument("53 the argument is first", () -> shop.setLetter(1, 1, letter));
        }
        Check.state("53 blocked", () -> shop.setLetter(1, 1, 'a'));
        Check.state("53 blocked", () -> shop.setLetter(3, 3, 0));
        Check.argument("53 no such cell", () -> shop.setLetter(4, 0, 0));
        Check.argument("53 no such cell", () -> shop.setLetter(0, 4, 'a'));
        Check.same("53 nothing has changed", Check.view(shop), before);
        Check.state("53 nothing is remembered", () -> shop.undo());
    }

    private static void writeRow() {
        ShopCross shop = new ShopCross();
        Check.same("58 length", shop.writeRow(0), 4);
        int[] due = {'k', 'i', 'l', 'n'};
        for (int i = 0; i < 4; i++) {
            Check.same("59", shop.outputByte(i), due[i]);
        }
        Check.same("58", Check.row(shop, 1), "a#.#");
        Check.same("58", Check.row(shop, 2), "l...");
        Check.same("58", Check.row(shop, 3), "e#.#");
        Check.same("59 #", shop.outputByte(1), 35);
        Check.same("59 .", shop.outputByte(2), 46);
        for (int position : new int[] {-1, 4, 5, 6, Integer.MIN_VALUE, Integer.MAX_VALUE}) {
            Check.element("59 " + position, () -> shop.outputByte(position));
        }
        for (int y : new int[] {-1, 4, 5, Integer.MIN_VALUE, Integer.MAX_VALUE}) {
            Check.argument("58 " + y, () -> shop.writeRow(y));
        }
        Check.same("58 the output stays as it was", shop.outputByte(0), 'e');
        Check.same("58 a given letter is not sure without slots",
                Check.row(Check.loaded("grid 2 2;block 0 0;block 1 1;letter 1 0 a;"), 0), "#.");
    }

    private static void outputStays() {
        ShopCross shop = Check.loaded("grid 6 2;");
        Check.same("58 six", shop.writeRow(1), 6);
        Check.same("59 the last", shop.outputByte(5), '.');
        Check.put(shop, SMALL + "solve 1;");
        shop.load();
        Check.same("59 the output is not part of the state", shop.outputByte(5), '.');
        Check.same("58 two", shop.writeRow(1), 2);
        Check.same("59", shop.outputByte(1), 'd');
        Check.element("58 the previous output is discarded", () -> shop.outputByte(2));
        shop.undo();
        Check.same("59 undo leaves the output", shop.outputByte(0), 'c');
        Check.element("59 undo leaves the output", () -> shop.outputByte(2));
    }

    private static void save() {
        ShopCross shop = new ShopCross();
        for (int number : new int[] {-1, 2, 3, Integer.MIN_VALUE, Integer.MAX_VALUE}) {
            Check.bounds("60 " + number, () -> shop.save(number));
            Check.bounds("61 " + number, () -> shop.restore(number));
        }
        String first = Check.view(shop);
        Check.same("60 words", shop.save(1), 12);
        Check.same("60 nothing changes", Check.view(shop), first);
        Check.state("60 it is not undoable", () -> shop.undo());
        Check.state("61 the other is empty", () -> shop.restore(0));
        shop.addWord(Check.number("qqq"));
        Check.same("60 words", shop.save(0), 13);
        String second = Check.view(shop);
        Check.same("61 words afterwards", shop.restore(1), 12);
        Check.same("61 restored", Check.view(shop), first);
        Check.same("61 words afterwards", shop.restore(0), 13);
        Check.same("61 restored", Check.view(shop), second);
    }

    private static void restore() {
        ShopCross shop = new ShopCross();
        shop.guess(2, 11);
        shop.save(0);
        String saved = Check.view(shop);
        shop.step();
        shop.takeBack();
        shop.setLetter(2, 2, 'q');
        shop.restore(0);
        Check.same("61 restored", Check.view(shop), saved);
        Check.same("61 the guesses, too: slot 3", shop.takeBack(), 0);
        Check.same("61 the guesses, too: slot 2", Check.candidates(shop, 2), "lane line lime");
        shop.addWord(Check.number("lurk"));
        shop.restore(0);
        Check.same("61 it keeps its content", Check.view(shop), saved);
        Check.put(shop, SMALL);
        shop.load();
        shop.undo();
        shop.undo();
        Check.same("62 undo of restore", shop.wordCount(), 13);
        shop.restore(0);
        Check.same("62 saved states stay", Check.view(shop), saved);
        Check.put(shop, SMALL);
        shop.load();
        shop.save(0);
        Check.same("60 the previous content is discarded", shop.restore(0), 4);
    }

    private static void undoEach() {
        ShopCross shop = new ShopCross();
        shop.save(0);
        Check.Call[] calls = {() -> shop.addWord(Check.number("qqq")), () -> shop.setLetter(0, 0, 'k'), () -> shop.setLetter(2, 3, 0),
            () -> shop.guess(2, 4), () -> shop.takeBack(), () -> shop.step(), () -> shop.solve(3), () -> shop.restore(0),
            () -> {
                Check.put(shop, SMALL);
                shop.load();
            }};
        String before = Check.view(shop);
        for (int i = 0; i < calls.length; i++) {
            calls[i].run();
            Check.same("62 something has changed by " + i, Check.view(shop).equals(before), i == 7);
            Check.same("62 left", shop.undo(), 0);
            Check.same("62 undone " + i, Check.view(shop), before);
            Check.state("62 nothing is left", () -> shop.undo());
        }
    }

    private static void undoEight() {
        ShopCross shop = new ShopCross();
        for (int i = 0; i < 11; i++) {
            shop.addWord(Check.number("q" + (char) ('a' + i)));
        }
        for (int left = 7; left >= 4; left--) {
            Check.same("62 left", shop.undo(), left);
            Check.same("62 words", shop.wordCount(), 23 - (8 - left));
        }
        shop.addWord(Check.number("qz"));
        Check.same("62 undo is not remembered", shop.undo(), 4);
        for (int left = 3; left >= 0; left--) {
            Check.same("62 left", shop.undo(), left);
        }
        Check.same("62 the latest eight alone", shop.wordCount(), 15);
        Check.state("62 none is left", () -> shop.undo());
        Check.same("62 a call that throws changes nothing", shop.wordCount(), 15);
        Check.put(shop, SMALL);
        shop.load();
        shop.step();
        Check.same("62 load keeps what is remembered", shop.undo(), 1);
        Check.same("62 words", shop.wordCount(), 4);
        Check.same("62 undo of load", shop.undo(), 0);
        Check.same("62 words", shop.wordCount(), 15);
    }

    private static void notRemembered() {
        ShopCross shop = new ShopCross();
        shop.solve(200);
        Check.state("solved", () -> shop.step());
        Check.state("refused", () -> shop.guess(0, 0));
        Check.argument("range", () -> shop.solve(0));
        Check.argument("range", () -> shop.addWord(0));
        Check.state("there", () -> shop.addWord(Check.number("kiln")));
        Check.state("blocked", () -> shop.setLetter(1, 1, 0));
        Check.state("empty", () -> shop.restore(1));
        Check.argument("empty text", () -> shop.load());
        shop.save(1);
        shop.writeRow(0);
        Check.same("62 only solve is remembered", shop.undo(), 0);
        Check.same("62 undone", shop.level(), 1);
        ShopCross none = Check.loaded("grid 2 2;block 0 0;block 1 1;");
        Check.same("57 no step", none.solve(7), 0);
        Check.same("62 it is remembered all the same", none.undo(), 1);
        Check.state("55 nothing to take back", () -> none.takeBack());
        Check.same("62 not remembered", none.undo(), 0);
    }
}
