/** What the tests have in common: they count what is wrong, and they put texts into the input buffer. */
final class Check {
    interface Call {
        void run();
    }

    private static int wrong;
    private static int made;

    private Check() {}

    static void same(String what, long got, long due) {
        made++;
        if (got != due) {
            fail(what + " is " + got + ", due is " + due);
        }
    }

    static void same(String what, double got, double due) {
        made++;
        if (got != due) {
            fail(what + " is " + got + ", due is " + due);
        }
    }

    static void same(String what, boolean got, boolean due) {
        same(what, got ? 1 : 0, due ? 1 : 0);
    }

    static void same(String what, String got, String due) {
        made++;
        if (!got.equals(due)) {
            fail(what + " is " + got + ", due is " + due);
        }
    }

    static void argument(String what, Call call) {
        thrown(what, IllegalArgumentException.class, call);
    }

    static void state(String what, Call call) {
        thrown(what, IllegalStateException.class, call);
    }

    static void bounds(String what, Call call) {
        thrown(what, IndexOutOfBoundsException.class, call);
    }

    static void element(String what, Call call) {
        thrown(what, java.util.NoSuchElementException.class, call);
    }

    private static void thrown(String what, Class<?> due, Call call) {
        made++;
        try {
            call.run();
            fail(what + " throws nothing, due is " + due.getSimpleName());
        } catch (RuntimeException e) {
            if (e.getClass() != due) {
                fail(what + " throws " + e + ", due is " + due.getSimpleName());
            }
        }
    }

    private static void fail(String what) {
        wrong++;
        System.out.println("WRONG: " + what);
    }

    static void end(String test) {
        System.out.println(test + ": " + made + " checks, " + wrong + " wrong");
        if (wrong > 0 || made == 0) {
            System.exit(1);
        }
    }

    /** Makes the input buffer hold this text. */
    static void put(ShopCross shop, String text) {
        shop.truncateInput(0);
        for (int at = 0; at < text.length(); at += 20) {
            int[] fours = new int[5];
            for (int i = 0; i < 20; i++) {
                int sign = at + i < text.length() ? text.charAt(at + i) : ' ';
                fours[i / 4] = fours[i / 4] << 8 | sign;
            }
            shop.appendInput(fours[0], fours[1], fours[2], fours[3], fours[4]);
        }
        shop.truncateInput(text.length());
    }

    static ShopCross loaded(String text) {
        ShopCross shop = new ShopCross();
        put(shop, text);
        shop.load();
        return shop;
    }

    static void good(String text, int words) {
        ShopCross shop = new ShopCross();
        put(shop, text);
        same("4 " + text, shop.load(), words);
        same("5 " + text, shop.errorCode(), 0);
        same("6 " + text, shop.errorPosition(), -1);
    }

    /** The first sign ^ stands before the token that has the error, and is not in the text. */
    static void bad(String marked, int code) {
        int at = marked.indexOf('^');
        ShopCross shop = new ShopCross();
        String before = view(shop);
        put(shop, marked.substring(0, at) + marked.substring(at + 1));
        argument("4 " + marked, () -> shop.load());
        same("5 " + marked, shop.errorCode(), code);
        same("6 " + marked, shop.errorPosition(), at);
        same("4 the state does not change " + marked, view(shop), before);
        argument("4 the buffer is empty " + marked, () -> shop.truncateInput(1));
        state("4 nothing is remembered " + marked, () -> shop.undo());
    }

    /** As many statements word: 26 words of two letters from ba to bz, then some of three. */
    static String words(int number) {
        StringBuilder text = new StringBuilder();
        for (int i = 0; i < number; i++) {
            text.append("word b").append((char) ('a' + i % 26)).append(i < 26 ? "" : "c").append(';');
        }
        return text.toString();
    }

    /** The number that addWord wants for a word. */
    static int number(String word) {
        int number = 0;
        for (int i = 0; i < word.length(); i++) {
            number = number << 5 | (word.charAt(i) - 'a' + 1);
        }
        return number;
    }

    /** How many calls are remembered, if they are fewer than eight; the state stays as it is. */
    static int remembered(ShopCross shop) {
        shop.solve(1);
        return shop.undo();
    }

    static String word(ShopCross shop, int word) {
        StringBuilder letters = new StringBuilder();
        for (int i = 0; i < shop.wordLength(word); i++) {
            letters.append((char) shop.letterOf(word, i));
        }
        return letters.toString();
    }

    static String row(ShopCross shop, int y) {
        StringBuilder row = new StringBuilder();
        int length = shop.writeRow(y);
        for (int i = 0; i < length; i++) {
            row.append((char) shop.outputByte(i));
        }
        return row.toString();
    }

    static String candidates(ShopCross shop, int slot) {
        StringBuilder words = new StringBuilder();
        for (int i = 0; i < shop.candidateCount(slot); i++) {
            words.append(i == 0 ? "" : " ").append(word(shop, shop.candidateAt(slot, i)));
        }
        return words.toString();
    }

    /** Much of the state, as a text, by questions alone. */
    static String view(ShopCross shop) {
        StringBuilder view = new StringBuilder();
        view.append(shop.columns()).append('x').append(shop.rows()).append(" slots ").append(shop.slotCount());
        view.append(" words ").append(shop.wordCount()).append(" state ").append(shop.state());
        view.append(" left ").append(shop.candidatesLeft()).append(" prize ").append(shop.prizeNow());
        view.append(" made ").append(shop.guesses()).append(" back ").append(shop.takenBack());
        view.append(" difference ").append(shop.levelDifference()).append(" best ").append(shop.bestSlot());
        view.append(" steps ").append(shop.stepsToEnd()).append(" share ").append(shop.sureShare());
        for (int level = 1; level <= shop.level(); level++) {
            view.append(" guess ").append(shop.guessedSlot(level)).append('=').append(shop.guessedWord(level));
        }
        for (int slot = 0; slot < shop.slotCount(); slot++) {
            view.append(' ').append(shop.isDown(slot)).append(shop.crossingCount(slot)).append('=').append(candidates(shop, slot));
        }
        for (int word = 0; word < shop.wordCount(); word++) {
            view.append(' ').append(word(shop, word)).append(shop.prizeOf(word));
        }
        for (int y = 0; y < shop.rows(); y++) {
            for (int x = 0; x < shop.columns(); x++) {
                view.append(shop.isBlocked(x, y) ? "#" : "." + shop.givenLetter(x, y) + shop.sureLetter(x, y));
            }
        }
        return view.toString();
    }
}
