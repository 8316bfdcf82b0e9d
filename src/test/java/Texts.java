import java.util.ArrayList;
import java.util.Collections;
import java.util.List;
import java.util.Random;

/** Makes texts for load: most of them right, with words that really cross, some of them with an error. */
final class Texts {
    private static final int MOST = 600;

    private final Random random;

    Texts(Random random) {
        this.random = random;
    }

    String next() {
        String text = rightText();
        for (int i = random.nextInt(3); i > 0 && random.nextInt(10) < 6; i--) {
            text = spoil(text);
        }
        return text.substring(0, Math.min(text.length(), MOST));
    }

    String word(int letters, int alphabet) {
        StringBuilder word = new StringBuilder();
        for (int i = 0; i < letters; i++) {
            word.append((char) ('a' + random.nextInt(alphabet)));
        }
        return word.toString();
    }

    /** A full square and many words, for which a search takes long. */
    private String longText() {
        int side = 4 + random.nextInt(3);
        int alphabet = side == 5 ? 4 : 3;
        StringBuilder text = new StringBuilder("grid " + side + " " + side + ";");
        List<String> words = new ArrayList<>();
        for (int i = side == 4 ? 16 : 30; i > 0; i--) {
            words.add(word(side, alphabet));
        }
        words.stream().distinct().forEach(word -> text.append("word ").append(word).append(';'));
        return text.toString();
    }

    /** As many words as there may be, or one too many. */
    private String fullText() {
        StringBuilder text = new StringBuilder("grid 3 2;");
        for (int i = 30 + random.nextInt(2); i > 0; i--) {
            text.append("word ").append((char) ('a' + i % 5)).append((char) ('a' + i / 5)).append(i % 2 == 0 ? "" : "c").append(';');
        }
        return text.toString();
    }

    private String rightText() {
        int kind = random.nextInt(20);
        return kind == 0 ? longText() : kind == 1 ? fullText() : crossedText();
    }

    private String crossedText() {
        int columns = 2 + random.nextInt(5);
        int rows = 2 + random.nextInt(5);
        int alphabet = 2 + random.nextInt(6);
        StringBuilder text = new StringBuilder("grid " + columns + " " + rows + ";");
        int blocks = random.nextInt(3) == 0 ? 0 : random.nextInt(columns * rows / 3 + 1);
        for (int i = 0; i < blocks; i++) {
            tryMore(text, "block " + random.nextInt(columns) + " " + random.nextInt(rows) + ";");
        }
        Model.State grid = Model.parse(text.toString());
        int most = 4 + random.nextInt(26);
        for (String word : words(grid, alphabet, most)) {
            if (text.length() + word.length() < MOST - 50) {
                text.append("word ").append(word).append(';');
            }
        }
        for (int i = random.nextInt(6); i > 0; i--) {
            tryMore(text, statement(columns, rows, alphabet, text.toString()));
        }
        return text.toString();
    }

    private void tryMore(StringBuilder text, String statement) {
        if (text.length() + statement.length() > MOST) {
            return;
        }
        try {
            Model.parse(text + statement);
            text.append(statement);
        } catch (Model.Refused refused) {
            boolean keepError = statement.startsWith("guess") && random.nextInt(20) == 0;
            if (keepError) {
                text.append(statement);
            }
        }
    }

    /** The words of a grid that is filled at random, and others that differ from them in a letter. */
    private List<String> words(Model.State grid, int alphabet, int most) {
        String[] lines = new String[grid.rows];
        for (int y = 0; y < grid.rows; y++) {
            lines[y] = word(grid.columns, alphabet);
        }
        List<String> words = new ArrayList<>();
        for (Model.Slot slot : grid.slots()) {
            StringBuilder word = new StringBuilder();
            for (Model.Cell cell : slot.cells()) {
                word.append(lines[cell.y()].charAt(cell.x()));
            }
            words.add(word.toString());
        }
        if (random.nextInt(4) == 0 && !words.isEmpty()) {
            words.remove(random.nextInt(words.size()));
        }
        int slotWords = words.size();
        for (int i = 0; i < 60 && words.size() < most; i++) {
            String former = slotWords > 0 ? words.get(random.nextInt(words.size())) : word(2 + random.nextInt(5), alphabet);
            int at = random.nextInt(former.length());
            words.add(former.substring(0, at) + word(1, alphabet) + former.substring(at + 1));
        }
        List<String> distinct = new ArrayList<>(new java.util.TreeSet<>(words));
        Collections.shuffle(distinct, random);
        return distinct;
    }

    private String statement(int columns, int rows, int alphabet, String text) {
        switch (random.nextInt(6)) {
            case 0:
                return "letter " + random.nextInt(columns) + " " + random.nextInt(rows) + " " + word(1, alphabet) + ";";
            case 1:
                return "back;";
            case 2:
                return "solve " + (random.nextInt(3) == 0 ? 200 : random.nextInt(8)) + ";";
            default:
                return guess(text);
        }
    }

    private String guess(String text) {
        Model.State state;
        try {
            state = Model.parse(text);
        } catch (Model.Refused refused) {
            return "guess 0 ab;";
        }
        List<String> possible = new ArrayList<>();
        for (int slot = 0; slot < state.candidates.size(); slot++) {
            for (int word : state.candidates.get(slot)) {
                possible.add("guess " + slot + " " + state.words.get(word) + ";");
            }
        }
        return possible.isEmpty() ? "solve 1;" : possible.get(random.nextInt(possible.size()));
    }

    private String spoil(String text) {
        List<Model.Token> tokens = Model.tokens(text);
        Model.Token token = tokens.get(random.nextInt(tokens.size()));
        Model.Token other = tokens.get(random.nextInt(tokens.size()));
        String before = text.substring(0, token.at());
        String after = text.substring(token.at() + token.text().length());
        switch (random.nextInt(8)) {
            case 0:
                return text.substring(0, random.nextInt(text.length() + 1));
            case 1:
                return before + after;
            case 2:
                return before + other.text() + after;
            case 3:
                return before + " \n" + token.text() + "\n" + after;
            case 4:
                return before + (char) random.nextInt(256) + after;
            case 5:
                return before + (random.nextBoolean() ? "000" : "4294967296") + token.text() + after;
            case 6:
                return before + random.nextInt(10) + after;
            default:
                int place = random.nextInt(text.length() + 1);
                String[] more = {"back;", "word ", "block 0 0;", "letter 1 1 ab;", "guess 25 ab;", "solve 201;", "solve 0;", "grid 2 2;"};
                return text.substring(0, place) + more[random.nextInt(more.length)] + text.substring(place);
        }
    }
}
