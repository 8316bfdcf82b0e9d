/** Promises 23 to 27 and 52: the words, their prizes, and words that come. */
public final class WordsTest {
    public static void main(String[] args) {
        letters();
        prizes();
        leastPrize();
        addWord();
        wrongWords();
        thirtyWords();
        beginAnew();
        Check.end("WordsTest");
    }

    private static void letters() {
        ShopCross shop = Check.loaded("grid 2 2;word az;word abcdef;word zyx;");
        Check.same("23 two", shop.wordLength(0), 2);
        Check.same("23 six", shop.wordLength(1), 6);
        Check.same("23 three", shop.wordLength(2), 3);
        Check.same("24 a", shop.letterOf(0, 0), 97);
        Check.same("24 z", shop.letterOf(0, 1), 122);
        Check.same("24 f", shop.letterOf(1, 5), 'f');
        Check.same("24 x", shop.letterOf(2, 2), 'x');
        Check.element("24 beyond", () -> shop.letterOf(0, 2));
        Check.element("24 beyond", () -> shop.letterOf(1, 6));
        Check.element("24 below 0", () -> shop.letterOf(1, -1));
        for (int word : new int[] {-1, 3, 30, Integer.MIN_VALUE, Integer.MAX_VALUE}) {
            Check.bounds("23", () -> shop.wordLength(word));
            Check.bounds("24 the word is first", () -> shop.letterOf(word, -1));
            Check.bounds("24", () -> shop.letterOf(word, 0));
            Check.bounds("25", () -> shop.prizeOf(word));
            Check.bounds("29", () -> shop.isCandidate(0, word));
            Check.bounds("37", () -> shop.guessRefusal(0, word));
            Check.bounds("38", () -> shop.leftAfter(0, word));
            Check.bounds("39", () -> shop.wouldStick(0, word));
            Check.bounds("54", () -> shop.guess(0, word));
        }
    }

    private static void prizes() {
        ShopCross shop = new ShopCross();
        // k is in 3 words, i, n and t in 7, 7 and 3, l and e in 8
        Check.same("26 k", shop.wordsWith('k'), 3);
        Check.same("26 n is in nine once", shop.wordsWith('n'), 7);
        Check.same("26 e is in keel once", shop.wordsWith('e'), 8);
        Check.same("26 a", shop.wordsWith('a'), 4);
        Check.same("26 z", shop.wordsWith('z'), 0);
        Check.same("27 k", shop.prizeOfLetter('k'), 7);
        Check.same("27 n", shop.prizeOfLetter('n'), 3);
        Check.same("27 z", shop.prizeOfLetter('z'), 10);
        Check.same("25 kiln", shop.prizeOf(0), 7 + 3 + 2 + 3);
        Check.same("25 nine counts n twice", shop.prizeOf(5), 3 + 3 + 3 + 2);
        Check.same("25 keel counts e twice", shop.prizeOf(10), 7 + 2 + 2 + 2);
        Check.same("25 ivy", shop.prizeOf(6), 3 + 9 + 9);
        for (int letter : new int[] {96, 123, 0, -1, 65, Integer.MIN_VALUE, Integer.MAX_VALUE, 97 + 256}) {
            Check.argument("26", () -> shop.wordsWith(letter));
            Check.argument("27", () -> shop.prizeOfLetter(letter));
        }
        Check.same("26 first", shop.wordsWith(97), 4);
        Check.same("26 last", shop.wordsWith(122), 0);
        shop.addWord(Check.number("zanzaz"));
        Check.same("26 a word has come", shop.wordsWith('z'), 1);
        Check.same("27 a word has come", shop.prizeOfLetter('z'), 9);
        Check.same("25 a word has come", shop.prizeOf(12), 9 + 5 + 2 + 9 + 5 + 9);
        shop.undo();
        Check.same("26 undone", shop.wordsWith('z'), 0);
        Check.same("26 a new text", Check.loaded("grid 2 2;word ab;").wordsWith('k'), 0);
    }

    private static void leastPrize() {
        ShopCross shop = Check.loaded("grid 2 2;word ab;word ac;word ad;word ae;word af;word ag;word ah;word ai;");
        Check.same("27 8 words", shop.prizeOfLetter('a'), 2);
        shop.addWord(Check.number("aj"));
        Check.same("27 9 words", shop.prizeOfLetter('a'), 1);
        shop.addWord(Check.number("ak"));
        Check.same("27 10 words", shop.prizeOfLetter('a'), 1);
        shop.addWord(Check.number("aaa"));
        Check.same("27 11 words", shop.prizeOfLetter('a'), 1);
        Check.same("26 11 words", shop.wordsWith('a'), 11);
        Check.same("25 11 words", shop.prizeOf(10), 3);
    }

    private static void addWord() {
        ShopCross shop = new ShopCross();
        String[] words = {"aa", "zz", "aza", "zzzzzz", "aaaaaa", "abcdef", "az"};
        for (int i = 0; i < words.length; i++) {
            Check.same("52 " + words[i], shop.addWord(Check.number(words[i])), 12 + i);
            Check.same("52 " + words[i], Check.word(shop, 12 + i), words[i]);
            Check.state("52 there already", () -> shop.addWord(Check.number("aa")));
        }
        Check.same("52 all are remembered", shop.undo(), 6);
        Check.same("52 undone", shop.wordCount(), 18);
        Check.state("52 there by the text", () -> shop.addWord(Check.number("ivy")));
    }

    private static void wrongWords() {
        ShopCross shop = new ShopCross();
        int z = 26;
        int[] wrong = {0, 1, z, 27, 31, 32, 32 + 27, 27 * 32 + 1, 28 * 32 + 2, 31 * 32 + 31, 1024, 1024 + 1, 1024 + 32,
            1 << 30, (1 << 30) + Check.number("abcdef"), -5, -1, Integer.MIN_VALUE, Integer.MAX_VALUE,
            Check.number("abcdef") | 1 << 31, Check.number("abcdef") - 6, Check.number("abcdef") | 31};
        String before = Check.view(shop);
        for (int number : wrong) {
            Check.argument("52 " + number, () -> shop.addWord(number));
        }
        Check.same("52 a call that throws changes nothing", Check.view(shop), before);
        Check.state("52 nothing is remembered", () -> shop.undo());
    }

    private static void thirtyWords() {
        ShopCross shop = new ShopCross();
        for (int i = 12; i < 30; i++) {
            Check.same("52", shop.addWord(Check.number("q" + (char) ('a' + i - 12))), i);
        }
        Check.state("52 thirty words", () -> shop.addWord(Check.number("xyz")));
        Check.state("52 thirty words, and it is there", () -> shop.addWord(Check.number("qa")));
        Check.argument("52 the argument is first", () -> shop.addWord(1));
        Check.same("52 thirty words", shop.wordCount(), 30);
        Check.same("24 the last", shop.letterOf(29, 1), 'r');
        Check.same("29 the last", shop.isCandidate(0, 29), false);
    }

    private static void beginAnew() {
        ShopCross shop = new ShopCross();
        Check.same("52 before", shop.level(), 1);
        shop.addWord(Check.number("qqqqqq"));
        Check.same("52 no guesses", shop.level(), 0);
        Check.same("52 candidates", Check.candidates(shop, 0), "kiln kale");
        Check.same("52 candidates", shop.candidatesLeft(), 12);
        ShopCross hopeless = Check.loaded("grid 2 3;block 0 1;block 1 1;word ab;solve 2;");
        Check.same("52 hopeless", hopeless.state(), 3);
        hopeless.addWord(Check.number("cd"));
        Check.same("52 open again", hopeless.state(), 0);
        Check.same("52 candidates", hopeless.candidatesLeft(), 4);
    }
}
