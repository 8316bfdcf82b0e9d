/** Promises 1 to 6 and 11, and the whole of section 5. */
public final class InputTest {
    public static void main(String[] args) {
        newObject();
        appendInput();
        truncateInput();
        load();
        loadWithError();
        tokens();
        allowed();
        notAllowed();
        outOfRange();
        blockedOrThere();
        missing();
        tooManyWords();
        refused();
        statementsInOrder();
        findWord();
        cutTexts();
        Check.end("InputTest");
    }

    private static void newObject() {
        ShopCross shop = new ShopCross();
        Check.same("1 errorCode", shop.errorCode(), 0);
        Check.same("1 errorPosition", shop.errorPosition(), -1);
        Check.argument("1 empty buffer", () -> shop.truncateInput(1));
        Check.same("1 empty buffer", shop.truncateInput(0), 0);
        Check.element("1 empty output", () -> shop.outputByte(0));
        Check.state("1 no saved state 0", () -> shop.restore(0));
        Check.state("1 no saved state 1", () -> shop.restore(1));
        Check.state("1 nothing to undo", () -> shop.undo());
        Check.same("1 words", shop.wordCount(), 12);
        String[] words = {"kiln", "lane", "line", "kale", "lime", "nine", "ivy", "tea", "ant", "nile", "keel", "lint"};
        for (int word = 0; word < words.length; word++) {
            Check.same("1 word", Check.word(shop, word), words[word]);
        }
        Check.same("1 slot 0", Check.candidates(shop, 0), "kiln");
        Check.same("1 slot 1", Check.candidates(shop, 1), "kale");
        Check.same("1 slot 2", Check.candidates(shop, 2), "lane line lime lint");
        Check.same("1 slot 3", Check.candidates(shop, 3), "lane line lime lint");
        Check.same("1 rows", Check.row(shop, 0) + Check.row(shop, 1) + Check.row(shop, 2) + Check.row(shop, 3), "kilna#.#l...e#.#");
        Check.same("1 guesses", shop.guesses(), 1);
        Check.same("1 level", shop.level(), 1);
        String text = "grid 4 4;block 1 1;block 3 1;block 1 3;block 3 3;word kiln;word lane;word line;word kale;word lime;"
                + "word nine;word ivy;word tea;word ant;word nile;word keel;word lint;letter 0 0 k;guess 0 kiln;";
        Check.same("1 the state is that of the text", Check.view(shop), Check.view(Check.loaded(text)));
    }

    private static void appendInput() {
        ShopCross shop = new ShopCross();
        for (int i = 1; i <= 30; i++) {
            Check.same("2 length", shop.appendInput(0, 0, 0, 0, 0), 20 * i);
        }
        Check.state("2 full", () -> shop.appendInput(0, 0, 0, 0, 0));
        Check.same("2 a refused call changes nothing", shop.truncateInput(600), 600);
        shop.truncateInput(581);
        Check.state("2 one byte too many", () -> shop.appendInput(0, 0, 0, 0, 0));
        shop.truncateInput(580);
        Check.same("2 just full", shop.appendInput(0, 0, 0, 0, 0), 600);
        shop.truncateInput(0);
        Check.put(shop, "grid 2 3;word ab;\n  ");
        Check.same("2 the bytes in their order", shop.load(), 1);
        Check.same("2 the bytes in their order", shop.rows(), 3);
        shop.appendInput(('g' << 24) | ('r' << 16) | ('i' << 8) | 'd', 0x20322032, 0x3B0AE9FF, -1, -1);
        Check.argument("2 great bytes", () -> shop.load());
        Check.same("2 great bytes are tokens of their own", shop.errorPosition(), 10);
    }

    private static void truncateInput() {
        ShopCross shop = new ShopCross();
        shop.appendInput(0, 0, 0, 0, 0);
        Check.argument("3 too long", () -> shop.truncateInput(21));
        Check.argument("3 below 0", () -> shop.truncateInput(-1));
        Check.argument("3 far too long", () -> shop.truncateInput(Integer.MAX_VALUE));
        Check.argument("3 far below 0", () -> shop.truncateInput(Integer.MIN_VALUE));
        Check.same("3 the current length", shop.truncateInput(20), 20);
        Check.same("3 shorter", shop.truncateInput(7), 7);
        Check.argument("3 longer again", () -> shop.truncateInput(8));
        Check.same("3 appended", shop.appendInput(0, 0, 0, 0, 0), 27);
        Check.same("3 empty", shop.truncateInput(0), 0);
    }

    private static void load() {
        ShopCross shop = new ShopCross();
        Check.put(shop, "grid 2 3;");
        Check.same("4 no words", shop.load(), 0);
        Check.argument("4 the buffer is empty afterwards", () -> shop.truncateInput(1));
        Check.same("4 columns", shop.columns(), 2);
        Check.same("4 rows", shop.rows(), 3);
        Check.same("4 guesses", shop.guesses(), 0);
        Check.put(shop, "grid 3 2;word abc;word ab;");
        Check.same("4 two words", shop.load(), 2);
        Check.same("4 columns", shop.columns(), 3);
        Check.same("4 undo", shop.undo(), 1);
        Check.same("4 undone", shop.columns(), 2);
        Check.same("4 undo", shop.undo(), 0);
        Check.same("4 undone", shop.columns(), 4);
        Check.same("4 undone", shop.level(), 1);
    }

    private static void loadWithError() {
        ShopCross shop = new ShopCross();
        String before = Check.view(shop);
        Check.put(shop, "grid 2 2;word ab;back;");
        Check.argument("4 error", () -> shop.load());
        Check.same("4 the state does not change", Check.view(shop), before);
        Check.argument("4 the buffer is empty after an error", () -> shop.truncateInput(1));
        Check.state("4 nothing is remembered", () -> shop.undo());
        Check.same("5 errorCode", shop.errorCode(), 6);
        Check.same("6 errorPosition", shop.errorPosition(), 17);
        shop.step();
        shop.undo();
        Check.same("5 it is not part of the state", shop.errorCode(), 6);
        Check.same("6 it is not part of the state", shop.errorPosition(), 17);
        Check.argument("4 empty text", () -> shop.load());
        Check.same("5 the latest call", shop.errorCode(), 1);
        Check.same("6 the latest call", shop.errorPosition(), 0);
        Check.put(shop, "grid 2 2;");
        shop.load();
        Check.same("5 no error", shop.errorCode(), 0);
        Check.same("6 no error", shop.errorPosition(), -1);
        shop.undo();
        Check.same("5 after undo", shop.errorCode(), 0);
    }

    private static void tokens() {
        Check.good("grid 2 2;", 0);
        Check.good(" \n grid\n2  2 ; ", 0);
        Check.bad("grid2 2;^wordab;word\ncd;", 1);
        Check.good("grid2 2;word ab;word\ncd;", 2);
        Check.good("grid 0002 00000000000000000000000000000000000006;", 0);
        Check.good("grid 2 2;word word;word grid;word back;", 3);
        Check.good("grid 2 2;solve0;solve 0200;", 0);
        Check.good("grid 2 2;letter0 0a;letter 0 0 b;", 0);
        Check.good("grid 2 2;word ab;word ba;word bb;word aa;guess 000 ab;back;", 4);
    }

    private static void allowed() {
        ShopCross shop = Check.loaded("grid 3 6;block 2 5;word ab;word abcdef;letter 2 4 z;solve 200;");
        Check.same("4 words", shop.wordCount(), 2);
        Check.same("4 block", shop.isBlocked(2, 5), true);
        Check.same("4 letter", shop.givenLetter(2, 4), 'z');
        Check.same("4 solve", shop.state(), 3);
        Check.same("4 a letter in place of a former one", Check.loaded("grid 2 2;letter 1 0 a;letter 1 0 b;").givenLetter(1, 0), 'b');
    }

    private static void notAllowed() {
        Check.bad("^", 1);
        Check.bad(" \n ^", 1);
        Check.bad("^;", 1);
        Check.bad("^word ab;", 1);
        Check.bad("^grids 2 2;", 1);
        Check.bad("^gri 2 2;", 1);
        Check.bad("^Grid 2 2;", 1);
        Check.bad("grid^", 1);
        Check.bad("grid 2^", 1);
        Check.bad("grid 2 2^", 1);
        Check.bad("grid 2 2 \n^", 1);
        Check.bad("grid^\t2 2;", 1);
        Check.bad("grid ^x 2;", 1);
        Check.bad("grid 2 ^x;", 1);
        Check.bad("grid ^-2 2;", 1);
        Check.bad("grid 2 2 ^2;", 1);
        Check.bad("grid 2 2^,", 1);
        Check.bad("grid 2 2^:word ab;", 1);
        Check.bad("grid 2 2;word ab^.", 1);
        Check.bad("grid 2 2;block 0 0^.", 1);
        Check.bad("grid 2 2;letter 0 0 a^.", 1);
        Check.bad("grid 2 2;solve 0^.", 1);
        Check.bad("grid 2 2;^grid 2 2;", 1);
        Check.bad("grid 2 2;^;", 1);
        Check.bad("grid 2 2;^5;", 1);
        Check.bad("grid 2 2;^\r", 1);
        Check.bad("grid 2 2;^\0", 1);
        Check.bad("grid 2 2;^words ab;", 1);
        Check.bad("grid 2 2;word ^5;", 1);
        Check.bad("grid 2 2;word ^;", 1);
        Check.bad("grid 2 2;word ^Ab;", 1);
        Check.bad("grid 2 2;word ab^", 1);
        Check.bad("grid 2 2;word ab ^cd;", 1);
        Check.bad("grid 2 2;word ab^5;", 1);
        Check.bad("grid 2 2;block ^a 0;", 1);
        Check.bad("grid 2 2;block 0 ^a;", 1);
        Check.bad("grid 2 2;block 0 0^", 1);
        Check.bad("grid 2 2;letter ^;", 1);
        Check.bad("grid 2 2;letter 0 ^;", 1);
        Check.bad("grid 2 2;letter 0 0^;", 1);
        Check.bad("grid 2 2;letter 0 0 ^ab;", 1);
        Check.bad("grid 2 2;letter 0 0 ^5;", 1);
        Check.bad("grid 2 2;letter 0 0 ^A;", 1);
        Check.bad("grid 2 2;letter 0 0 a ^b;", 1);
        Check.bad("grid 2 2;guess ^ab;", 1);
        Check.bad("grid 2 2;guess 0 ^0;", 1);
        Check.bad("grid 2 2;guess 0 ^;", 1);
        Check.bad("grid 2 2;solve^;", 1);
        Check.bad("grid 2 2;solve ^x;", 1);
        Check.bad("grid 2 2;solve 5^", 1);
        Check.bad("grid 2 2;word ab;word ba;word bb;word aa;guess 0 ab;back^", 1);
    }

    private static void outOfRange() {
        for (String number : new String[] {"0", "1", "7", "00007", "10", "4294967298", "18446744073709551618", "99999999999999999999999"}) {
            Check.bad("grid ^" + number + " 2;", 2);
            Check.bad("grid 2 ^" + number + ";", 2);
        }
        Check.bad("grid 3 2;block ^3 0;", 2);
        Check.bad("grid 3 2;block 0 ^2;", 2);
        Check.bad("grid 3 2;block ^4294967296 0;", 2);
        Check.bad("grid 3 2;letter ^3 0 a;", 2);
        Check.bad("grid 3 2;letter 0 ^2 a;", 2);
        Check.bad("grid 2 2;solve ^201;", 2);
        Check.bad("grid 2 2;solve ^4294967296;", 2);
        Check.bad("grid 2 2;word ^a;", 2);
        Check.bad("grid 2 2;word ^abcdefg;", 2);
        Check.bad("grid 2 2;word ^abcdefghijklmnopqrstuvwxyzabcdefghijklmnopqrstuvwxyz", 2);
    }

    private static void blockedOrThere() {
        Check.bad("grid 2 2;block 1 0;block 1 ^0;", 3);
        Check.bad("grid 2 2;block 1 0;letter 1 ^0 a;", 3);
        Check.bad("grid 2 2;block 1 0;letter 1 ^0 ab;", 3);
        Check.bad("grid 2 2;word ab;word ba;word ^ab;", 3);
        Check.bad("grid 2 2;word ab;word abc;word ^abc", 3);
    }

    private static void missing() {
        Check.bad("grid 2 2;word ab;word bb;guess ^4 ab;", 4);
        Check.bad("grid 2 2;word ab;word bb;guess ^4294967296 ab;", 4);
        Check.bad("grid 2 2;word ab;word bb;guess 0 ^ba;", 4);
        Check.bad("grid 2 2;word ab;word bb;guess 0 ^a;", 4);
        Check.bad("grid 2 2;word ab;word bb;guess 0 ^abcdefgh;", 4);
        Check.bad("grid 2 2;block 0 0;block 1 1;word ab;guess ^0 ab;", 4);
    }

    private static void tooManyWords() {
        StringBuilder text = new StringBuilder("grid 2 2;");
        for (int i = 0; i < 30; i++) {
            text.append("word b").append((char) ('a' + i % 26)).append(i < 26 ? "" : "c").append(';');
        }
        Check.good(text.toString(), 30);
        Check.bad(text + "^word zz;", 5);
        Check.bad(text + "^word", 5);
        Check.bad(text + "^word ba;", 5);
        Check.good(text + "letter 0 0 b;solve 3;", 30);
    }

    private static void refused() {
        Check.bad("grid 2 2;word ab;^block 0 0;", 6);
        Check.bad("grid 2 2;letter 0 0 a;^block 1 1;", 6);
        Check.bad("grid 2 2;letter 0 0 a;^block 7 7;", 6);
        Check.bad("grid 2 2;^back;", 6);
        Check.bad("grid 2 2;^back", 6);
        String words = "grid 3 3;block 0 1;block 1 1;block 2 1;word abc;word abd;word abe;";
        Check.good(words + "guess 0 abc;", 3);
        Check.bad(words + "guess 0 abc;back;^back;", 6);
        Check.bad(words + "guess 0 abc;letter 0 0 a;^back;", 6);
        Check.bad(words + "guess 0 abc;word ab;^back;", 6);
        Check.bad(words + "guess 0 abc;guess 1 ^abc;", 6);
        Check.bad(words + "guess 0 abc;guess 0 ^abc;", 6);
        Check.bad(words + "guess 0 abc;guess 1 abd;guess 0 ^abc;", 6);
        Check.bad("grid 2 2;word ab;guess 0 ^ab;", 6);
    }

    private static void statementsInOrder() {
        String words = "grid 3 3;block 0 1;block 1 1;block 2 1;word abc;word abd;word abe;";
        ShopCross shop = Check.loaded(words + "guess 0 abe;back;solve 1;");
        Check.same("4 guesses", shop.guesses(), 2);
        Check.same("4 back", shop.takenBack(), 1);
        Check.same("4 the first slot after back", Check.candidates(shop, 0), "abc");
        Check.same("4 solve", shop.level(), 1);
        Check.same("4 solve", shop.guessedWord(1), 0);
        ShopCross back = Check.loaded(words + "solve 1;back;");
        Check.same("4 back is one step alone", back.level() * 10 + back.guesses(), 1);
        Check.same("4 solve 0", Check.loaded(words + "solve 0;").level(), 0);
        Check.same("4 solve to the end", Check.loaded(words + "solve 200;").state(), 1);
        Check.same("4 a word that comes", Check.loaded(words + "guess 0 abe;word abf;").level(), 0);
        Check.same("4 a word that comes", Check.loaded(words + "guess 0 abe;word abf;").guesses(), 1);
    }

    private static void findWord() {
        ShopCross shop = new ShopCross();
        Check.same("11 empty buffer", shop.findWord(), -1);
        String[] words = {"kiln", "ivy", "lint", "lin", "ilnt", "lint ", " lint", "Lint", "lintt", "kil", "zzzz", ""};
        int[] due = {0, 6, 11, -1, -1, -1, -1, -1, -1, -1, -1, -1};
        for (int i = 0; i < words.length; i++) {
            Check.put(shop, words[i]);
            Check.same("11 " + words[i], shop.findWord(), due[i]);
            Check.same("11 the buffer does not change", shop.truncateInput(words[i].length()), words[i].length());
        }
    }

    /** What was in the buffer behind its end is no part of the text. */
    private static void cutTexts() {
        ShopCross shop = new ShopCross();
        Check.put(shop, "grid 2 2;word abcd;");
        shop.truncateInput(15);
        Check.argument("4 a word of one letter", () -> shop.load());
        Check.same("5 a word of one letter", shop.errorCode(), 2);
        Check.put(shop, "grid 2 2;solve 2000;");
        shop.truncateInput(18);
        Check.argument("4 no semicolon", () -> shop.load());
        Check.same("5 no semicolon", shop.errorCode(), 1);
        Check.same("6 no semicolon", shop.errorPosition(), 18);
        Check.put(shop, "lintel");
        shop.truncateInput(4);
        Check.same("11 cut", shop.findWord(), 11);
        for (String end : new String[] {"a", "0", ";", " "}) {
            StringBuilder full = new StringBuilder("grid 2 2;");
            while (full.length() < 599) {
                full.append(' ');
            }
            Check.put(shop, full + end);
            if (end.equals(" ")) {
                Check.same("4 a full buffer", shop.load(), 0);
            } else {
                Check.argument("4 a full buffer", () -> shop.load());
                Check.same("6 a full buffer", shop.errorPosition(), 599);
            }
        }
    }
}
