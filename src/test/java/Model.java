import java.util.ArrayList;
import java.util.Arrays;
import java.util.Collections;
import java.util.List;
import java.util.NoSuchElementException;
import java.util.TreeSet;

/** The document in its most naive form, to compare ShopCross with: everything is worked out anew, state by state. */
public final class Model {
    record Cell(int x, int y) {}

    record Slot(boolean down, List<Cell> cells) {}

    record Guess(int slot, int word, List<TreeSet<Integer>> before) {}

    record Token(String text, int at) {}

    static final class Refused extends RuntimeException {
        private static final long serialVersionUID = 1;
        final int code;
        final int at;

        Refused(int code, int at) {
            this.code = code;
            this.at = at;
        }
    }

    static final class State {
        int columns;
        int rows;
        boolean[][] blocked;
        int[][] given;
        List<String> words = new ArrayList<>();
        List<TreeSet<Integer>> candidates = new ArrayList<>();
        List<Guess> guesses = new ArrayList<>();
        int state;
        int made;
        int takenBack;
        int lost;

        State(int columns, int rows) {
            this.columns = columns;
            this.rows = rows;
            blocked = new boolean[columns][rows];
            given = new int[columns][rows];
            anew();
        }

        State copy() {
            State s = new State(columns, rows);
            for (int x = 0; x < columns; x++) {
                s.blocked[x] = blocked[x].clone();
                s.given[x] = given[x].clone();
            }
            s.words = new ArrayList<>(words);
            s.candidates = copyOf(candidates);
            s.guesses = new ArrayList<>(guesses);
            s.state = state;
            s.made = made;
            s.takenBack = takenBack;
            s.lost = lost;
            return s;
        }

        static List<TreeSet<Integer>> copyOf(List<TreeSet<Integer>> sets) {
            List<TreeSet<Integer>> copy = new ArrayList<>();
            for (TreeSet<Integer> set : sets) {
                copy.add(new TreeSet<>(set));
            }
            return copy;
        }

        boolean free(int x, int y) {
            return x >= 0 && y >= 0 && x < columns && y < rows && !blocked[x][y];
        }

        List<Slot> slots() {
            List<Slot> slots = new ArrayList<>();
            for (int y = 0; y < rows; y++) {
                for (int x = 0; x < columns; x++) {
                    if (free(x, y) && !free(x - 1, y) && free(x + 1, y)) {
                        List<Cell> cells = new ArrayList<>();
                        for (int i = x; free(i, y); i++) {
                            cells.add(new Cell(i, y));
                        }
                        slots.add(new Slot(false, cells));
                    }
                    if (free(x, y) && !free(x, y - 1) && free(x, y + 1)) {
                        List<Cell> cells = new ArrayList<>();
                        for (int i = y; free(x, i); i++) {
                            cells.add(new Cell(x, i));
                        }
                        slots.add(new Slot(true, cells));
                    }
                }
            }
            return slots;
        }

        void anew() {
            lost += guesses.size();
            guesses.clear();
            candidates.clear();
            for (Slot slot : slots()) {
                TreeSet<Integer> set = new TreeSet<>();
                for (int w = 0; w < words.size(); w++) {
                    boolean fits = words.get(w).length() == slot.cells().size();
                    for (int i = 0; fits && i < slot.cells().size(); i++) {
                        Cell c = slot.cells().get(i);
                        fits = given[c.x()][c.y()] == 0 || given[c.x()][c.y()] == words.get(w).charAt(i);
                    }
                    if (fits) {
                        set.add(w);
                    }
                }
                candidates.add(set);
            }
            narrow();
        }

        boolean someEmpty() {
            return candidates.stream().anyMatch(TreeSet::isEmpty);
        }

        void narrow() {
            List<Slot> slots = slots();
            while (!someEmpty()) {
                List<TreeSet<Integer>> crossed = new ArrayList<>();
                for (int s = 0; s < slots.size(); s++) {
                    TreeSet<Integer> kept = new TreeSet<>();
                    for (int w : candidates.get(s)) {
                        if (unsupported(slots, s, w) == 0) {
                            kept.add(w);
                        }
                    }
                    crossed.add(kept);
                }
                List<TreeSet<Integer>> after = copyOf(crossed);
                for (int s = 0; s < slots.size(); s++) {
                    if (crossed.get(s).size() == 1) {
                        for (int t = 0; t < slots.size(); t++) {
                            if (t != s) {
                                after.get(t).removeAll(crossed.get(s));
                            }
                        }
                    }
                }
                if (after.equals(candidates)) {
                    break;
                }
                candidates = after;
            }
            if (someEmpty()) {
                state = 2;
            } else {
                state = !slots.isEmpty() && candidates.stream().allMatch(c -> c.size() == 1) ? 1 : 0;
            }
        }

        /** At how many crossings no candidate of the other slot has the letter of this one. */
        int unsupported(List<Slot> slots, int s, int w) {
            int number = 0;
            for (int t = 0; t < slots.size(); t++) {
                for (Cell c : slots.get(s).cells()) {
                    int j = slots.get(t).cells().indexOf(c);
                    if (t != s && j >= 0) {
                        char letter = words.get(w).charAt(slots.get(s).cells().indexOf(c));
                        if (candidates.get(t).stream().noneMatch(o -> words.get(o).charAt(j) == letter)) {
                            number++;
                        }
                    }
                }
            }
            return number;
        }

        int refusal(int s, int w) {
            return state != 0 ? 1 : !candidates.get(s).contains(w) ? 2 : candidates.get(s).size() == 1 ? 3 : 0;
        }

        void guess(int s, int w) {
            guesses.add(new Guess(s, w, copyOf(candidates)));
            made++;
            candidates.set(s, new TreeSet<>(List.of(w)));
            narrow();
        }

        void back() {
            Guess g = guesses.remove(guesses.size() - 1);
            takenBack++;
            candidates = copyOf(g.before());
            candidates.get(g.slot()).remove(g.word());
            narrow();
        }

        boolean stepRefused() {
            return state == 1 || state == 3 || candidates.isEmpty();
        }

        void step() {
            if (state == 0) {
                int s = bestSlot();
                guess(s, bestWord(s));
            } else if (guesses.isEmpty()) {
                state = 3;
            } else {
                back();
            }
        }

        int steps(int most) {
            int n = 0;
            while (n < most && !stepRefused()) {
                step();
                n++;
            }
            return n;
        }

        int bestSlot() {
            int best = -1;
            for (int s = candidates.size() - 1; s >= 0; s--) {
                int n = candidates.get(s).size();
                if (n > 1 && (best < 0 || n <= candidates.get(best).size())) {
                    best = s;
                }
            }
            return best;
        }

        int bestWord(int s) {
            int best = -1;
            for (int w : candidates.get(s).descendingSet()) {
                if (best < 0 || prize(w) >= prize(best)) {
                    best = w;
                }
            }
            return best;
        }

        int with(int letter) {
            return (int) words.stream().filter(w -> w.indexOf(letter) >= 0).count();
        }

        int prize(int w) {
            return words.get(w).chars().map(c -> Math.max(1, 10 - with(c))).sum();
        }

        int total() {
            return candidates.stream().mapToInt(TreeSet::size).sum();
        }

        int sure(int x, int y) {
            List<Slot> slots = slots();
            TreeSet<Integer> letters = new TreeSet<>();
            for (int s = 0; s < slots.size(); s++) {
                int place = slots.get(s).cells().indexOf(new Cell(x, y));
                if (place >= 0) {
                    if (candidates.get(s).isEmpty()) {
                        return 0;
                    }
                    for (int w : candidates.get(s)) {
                        letters.add((int) words.get(w).charAt(place));
                    }
                }
            }
            return letters.size() == 1 ? letters.first() : 0;
        }
    }

    private static final String FIRST = "grid 4 4;block 1 1;block 3 1;block 1 3;block 3 3;word kiln;word lane;word line;"
            + "word kale;word lime;word nine;word ivy;word tea;word ant;word nile;word keel;word lint;letter 0 0 k;guess 0 kiln;";

    private State now;
    private String buffer = "";
    private String output = "";
    private int error;
    private int errorAt = -1;
    private final List<State> remembered = new ArrayList<>();
    private final State[] saved = new State[2];

    public Model() {
        now = parse(FIRST);
    }

    // ---- the text

    static List<Token> tokens(String text) {
        List<Token> tokens = new ArrayList<>();
        java.util.regex.Matcher m = java.util.regex.Pattern.compile("[a-z]+|[0-9]+|[^ \\n]", java.util.regex.Pattern.DOTALL)
                .matcher(text);
        while (m.find()) {
            tokens.add(new Token(m.group(), m.start()));
        }
        tokens.add(new Token("", text.length()));
        return tokens;
    }

    static State parse(String text) {
        List<Token> t = tokens(text);
        int i = 0;
        State s = null;
        while (s == null || !t.get(i).text().isEmpty()) {
            Token key = t.get(i++);
            String k = key.text();
            if (s == null ? !k.equals("grid") : !List.of("block", "word", "letter", "guess", "back", "solve").contains(k)) {
                throw new Refused(1, key.at());
            }
            if (k.equals("word") && s.words.size() == 30) {
                throw new Refused(5, key.at());
            }
            if (k.equals("block") && (!s.words.isEmpty() || Arrays.stream(s.given).flatMapToInt(Arrays::stream).anyMatch(g -> g > 0))
                    || k.equals("back") && s.guesses.isEmpty()) {
                throw new Refused(6, key.at());
            }
            int a = 0;
            int b = 0;
            String w = "";
            if (k.equals("grid")) {
                a = number(t.get(i++), 2, 6, 2);
                b = number(t.get(i++), 2, 6, 2);
            } else if (k.equals("block") || k.equals("letter")) {
                a = number(t.get(i++), 0, s.columns - 1, 2);
                b = number(t.get(i++), 0, s.rows - 1, 2);
                if (s.blocked[a][b]) {
                    throw new Refused(3, t.get(i - 1).at());
                }
                if (k.equals("letter")) {
                    w = t.get(i).text();
                    if (!w.matches("[a-z]")) {
                        throw new Refused(1, t.get(i).at());
                    }
                    i++;
                }
            } else if (k.equals("word")) {
                w = word(t.get(i));
                if (w.length() < 2 || w.length() > 6) {
                    throw new Refused(2, t.get(i).at());
                }
                if (s.words.contains(w)) {
                    throw new Refused(3, t.get(i).at());
                }
                i++;
            } else if (k.equals("guess")) {
                a = number(t.get(i++), 0, s.candidates.size() - 1, 4);
                b = s.words.indexOf(word(t.get(i)));
                if (b < 0) {
                    throw new Refused(4, t.get(i).at());
                }
                if (s.refusal(a, b) != 0) {
                    throw new Refused(6, t.get(i).at());
                }
                i++;
            } else if (k.equals("solve")) {
                a = number(t.get(i++), 0, 200, 2);
            }
            if (!t.get(i).text().equals(";")) {
                throw new Refused(1, t.get(i).at());
            }
            i++;
            switch (k) {
                case "grid" -> s = new State(a, b);
                case "block" -> s.blocked[a][b] = true;
                case "letter" -> s.given[a][b] = w.charAt(0);
                case "word" -> s.words.add(w);
                case "guess" -> s.guess(a, b);
                case "back" -> s.back();
                default -> s.steps(a);
            }
            if (List.of("block", "letter", "word").contains(k)) {
                s.anew();
            }
        }
        return s;
    }

    private static int number(Token t, int low, int high, int code) {
        if (!t.text().matches("[0-9]+")) {
            throw new Refused(1, t.at());
        }
        java.math.BigInteger n = new java.math.BigInteger(t.text());
        if (n.compareTo(java.math.BigInteger.valueOf(low)) < 0 || n.compareTo(java.math.BigInteger.valueOf(high)) > 0) {
            throw new Refused(code, t.at());
        }
        return n.intValue();
    }

    private static String word(Token t) {
        if (!t.text().matches("[a-z]+")) {
            throw new Refused(1, t.at());
        }
        return t.text();
    }

    // ---- the face

    public int appendInput(int a, int b, int c, int d, int e) {
        if (buffer.length() > 580) {
            throw new IllegalStateException();
        }
        StringBuilder more = new StringBuilder(buffer);
        for (int v : new int[] {a, b, c, d, e}) {
            for (int i = 3; i >= 0; i--) {
                more.append((char) Byte.toUnsignedInt((byte) (v >> 8 * i)));
            }
        }
        buffer = more.toString();
        return buffer.length();
    }

    public int truncateInput(int length) {
        if (length < 0 || length > buffer.length()) {
            throw new IllegalArgumentException();
        }
        buffer = buffer.substring(0, length);
        return length;
    }

    public int load() {
        String text = buffer;
        buffer = "";
        try {
            State loaded = parse(text);
            remember();
            now = loaded;
            error = 0;
            errorAt = -1;
        } catch (Refused r) {
            error = r.code;
            errorAt = r.at;
            throw new IllegalArgumentException();
        }
        return now.words.size();
    }

    public int errorCode() {
        return error;
    }

    public int errorPosition() {
        return errorAt;
    }

    public int columns() {
        return now.columns;
    }

    public int rows() {
        return now.rows;
    }

    public int slotCount() {
        return now.slots().size();
    }

    public int wordCount() {
        return now.words.size();
    }

    public int findWord() {
        return now.words.indexOf(buffer);
    }

    public boolean isBlocked(int x, int y) {
        cell(x, y);
        return now.blocked[x][y];
    }

    public int givenLetter(int x, int y) {
        cell(x, y);
        return now.given[x][y];
    }

    public int sureLetter(int x, int y) {
        cell(x, y);
        return now.sure(x, y);
    }

    public int slotAt(int x, int y, boolean down) {
        cell(x, y);
        for (Slot s : now.slots()) {
            if (s.down() == down && s.cells().contains(new Cell(x, y))) {
                return now.slots().indexOf(s);
            }
        }
        return -1;
    }

    public int firstX(int slot) {
        return slot(slot).cells().get(0).x();
    }

    public int firstY(int slot) {
        return slot(slot).cells().get(0).y();
    }

    public int lengthOf(int slot) {
        return slot(slot).cells().size();
    }

    public boolean isDown(int slot) {
        return slot(slot).down();
    }

    private List<int[]> crossings(int slot) {
        List<int[]> all = new ArrayList<>();
        List<Cell> cells = slot(slot).cells();
        for (int p = 0; p < cells.size(); p++) {
            for (int t = 0; t < now.slots().size(); t++) {
                if (t != slot && now.slots().get(t).cells().contains(cells.get(p))) {
                    all.add(new int[] {t, p});
                }
            }
        }
        return all;
    }

    public int crossingCount(int slot) {
        return crossings(slot).size();
    }

    public int crossingSlot(int slot, int index) {
        return at(crossings(slot), index)[0];
    }

    public int crossingPlace(int slot, int index) {
        return at(crossings(slot), index)[1];
    }

    public int wordLength(int word) {
        return word(word).length();
    }

    public int letterOf(int word, int place) {
        return at(word(word).chars().boxed().toList(), place);
    }

    public int prizeOf(int word) {
        word(word);
        return now.prize(word);
    }

    public int wordsWith(int letter) {
        letter(letter);
        return now.with(letter);
    }

    public int prizeOfLetter(int letter) {
        letter(letter);
        return Math.max(1, 10 - now.with(letter));
    }

    public int candidateCount(int slot) {
        slot(slot);
        return now.candidates.get(slot).size();
    }

    public boolean isCandidate(int slot, int word) {
        slot(slot);
        word(word);
        return now.candidates.get(slot).contains(word);
    }

    public int candidateAt(int slot, int index) {
        slot(slot);
        return at(new ArrayList<>(now.candidates.get(slot)), index);
    }

    public int state() {
        return now.state;
    }

    public int level() {
        return now.guesses.size();
    }

    public int guessedSlot(int level) {
        return at(now.guesses, level - 1L).slot();
    }

    public int guessedWord(int level) {
        return at(now.guesses, level - 1L).word();
    }

    public int bestSlot() {
        return now.bestSlot();
    }

    public int bestWord(int slot) {
        slot(slot);
        return now.bestWord(slot);
    }

    public int guessRefusal(int slot, int word) {
        slot(slot);
        word(word);
        return now.refusal(slot, word);
    }

    private State after(int slot, int word) {
        State s = now.copy();
        s.guess(slot, word);
        return s;
    }

    public int leftAfter(int slot, int word) {
        return guessRefusal(slot, word) != 0 ? -1 : after(slot, word).total();
    }

    public boolean wouldStick(int slot, int word) {
        return guessRefusal(slot, word) == 0 && after(slot, word).state == 2;
    }

    public int emptySlot() {
        return now.candidates.indexOf(new TreeSet<Integer>());
    }

    public int candidatesLeft() {
        return now.total();
    }

    public int prizeNow() {
        return now.candidates.stream().filter(c -> c.size() == 1).mapToInt(c -> now.prize(c.first())).sum();
    }

    public int stepsToEnd() {
        State s = now.copy();
        for (int n = 0; n <= 200; n++) {
            if (s.stepRefused()) {
                return n;
            }
            s.step();
        }
        return -1;
    }

    public int stateAtEnd() {
        State s = now.copy();
        s.steps(200);
        return s.state;
    }

    public int guesses() {
        return now.made;
    }

    public int takenBack() {
        return now.takenBack;
    }

    public int supportErrors() {
        int number = 0;
        for (int s = 0; now.state < 2 && s < now.candidates.size(); s++) {
            for (int w : now.candidates.get(s)) {
                number += now.unsupported(now.slots(), s, w);
            }
        }
        return number;
    }

    public int doubleErrors() {
        int number = 0;
        for (int s = 0; now.state < 2 && s < now.candidates.size(); s++) {
            TreeSet<Integer> one = now.candidates.get(s);
            List<TreeSet<Integer>> others = new ArrayList<>(now.candidates);
            others.remove(s);
            if (one.size() == 1 && others.stream().anyMatch(o -> !Collections.disjoint(o, one))) {
                number++;
            }
        }
        return number;
    }

    public int levelDifference() {
        return now.made - now.takenBack - now.lost - now.guesses.size();
    }

    public float sureShare() {
        int open = 0;
        int sure = 0;
        for (int x = 0; x < now.columns; x++) {
            for (int y = 0; y < now.rows; y++) {
                open += now.blocked[x][y] ? 0 : 1;
                sure += now.sure(x, y) == 0 ? 0 : 1;
            }
        }
        return open == 0 ? 0.0f : (float) sure / (float) open;
    }

    public double averageCandidates() {
        return now.candidates.isEmpty() ? 0.0 : (double) now.total() / (double) now.candidates.size();
    }

    public int addWord(int word) {
        StringBuilder letters = new StringBuilder();
        for (long left = Integer.toUnsignedLong(word); left > 0; left /= 32) {
            if (left % 32 < 1 || left % 32 > 26) {
                throw new IllegalArgumentException();
            }
            letters.append((char) ('`' + left % 32));
        }
        String spelled = letters.reverse().toString();
        if (spelled.length() < 2 || spelled.length() > 6) {
            throw new IllegalArgumentException();
        }
        if (now.words.size() == 30 || now.words.contains(spelled)) {
            throw new IllegalStateException();
        }
        remember();
        now.words.add(spelled);
        now.anew();
        return now.words.indexOf(spelled);
    }

    public int setLetter(int x, int y, int letter) {
        cell(x, y);
        if (letter != 0) {
            letter(letter);
        }
        if (now.blocked[x][y]) {
            throw new IllegalStateException();
        }
        remember();
        int former = now.given[x][y];
        now.given[x][y] = letter;
        now.anew();
        return former;
    }

    public int guess(int slot, int word) {
        if (guessRefusal(slot, word) != 0) {
            throw new IllegalStateException();
        }
        remember();
        now.guess(slot, word);
        return now.state;
    }

    public int takeBack() {
        if (now.guesses.isEmpty()) {
            throw new IllegalStateException();
        }
        remember();
        now.back();
        return now.state;
    }

    public int step() {
        if (now.stepRefused()) {
            throw new IllegalStateException();
        }
        remember();
        now.step();
        return now.state;
    }

    public int solve(int most) {
        if (most < 1 || most > 200) {
            throw new IllegalArgumentException();
        }
        remember();
        return now.steps(most);
    }

    public int writeRow(int y) {
        cell(0, y);
        StringBuilder row = new StringBuilder();
        for (int x = 0; x < now.columns; x++) {
            int letter = now.sure(x, y);
            row.append(now.blocked[x][y] ? '#' : letter == 0 ? '.' : (char) letter);
        }
        output = row.toString();
        return output.length();
    }

    public int outputByte(int position) {
        return at(output.chars().boxed().toList(), position);
    }

    public int save(int number) {
        stateSlot(number);
        saved[number] = now.copy();
        return now.words.size();
    }

    public int restore(int number) {
        stateSlot(number);
        if (saved[number] == null) {
            throw new IllegalStateException();
        }
        remember();
        now = saved[number].copy();
        return now.words.size();
    }

    public int undo() {
        if (remembered.isEmpty()) {
            throw new IllegalStateException();
        }
        now = remembered.remove(remembered.size() - 1);
        return remembered.size();
    }

    // ---- helpers

    private void remember() {
        remembered.add(now.copy());
        if (remembered.size() > 8) {
            remembered.remove(0);
        }
    }

    private void cell(int x, int y) {
        if (x < 0 || y < 0 || x >= now.columns || y >= now.rows) {
            throw new IllegalArgumentException();
        }
    }

    private void letter(int letter) {
        if (letter < 97 || letter > 122) {
            throw new IllegalArgumentException();
        }
    }

    private Slot slot(int slot) {
        if (slot < 0 || slot >= now.slots().size()) {
            throw new IndexOutOfBoundsException();
        }
        return now.slots().get(slot);
    }

    private String word(int word) {
        if (word < 0 || word >= now.words.size()) {
            throw new IndexOutOfBoundsException();
        }
        return now.words.get(word);
    }

    private void stateSlot(int number) {
        if (number != 0 && number != 1) {
            throw new IndexOutOfBoundsException();
        }
    }

    private static <T> T at(List<T> list, long index) {
        if (index < 0 || index >= list.size()) {
            throw new NoSuchElementException();
        }
        return list.get((int) index);
    }
}
