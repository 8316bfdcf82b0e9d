import java.util.NoSuchElementException;

/** Crossed words for a shop window; ../shared/DOC.md says what each method promises. */
public final class ShopCross {
    public static final int NONE = -1;
    public static final int OPEN = 0, SOLVED = 1, STUCK = 2, HOPELESS = 3;

    private static final int MIN_SIDE = 2;
    private static final int MAX_SIDE = 6;
    private static final int MAX_CELLS = 36;
    // a line of six cells has room for two slots at most, and there are twelve lines
    private static final int MAX_SLOTS = 24;
    private static final int MAX_PLACES = 144;
    private static final int MAX_WORDS = 30;
    private static final int MIN_LETTERS = 2;
    private static final int MAX_LETTERS = 6;
    private static final int ALPHABET = 26;
    private static final int MAX_INPUT = 600;
    private static final int MAX_STEPS = 200;
    private static final int MAX_REMEMBERED = 8;
    private static final int STATE_SLOTS = 2;
    private static final String FIRST_GRID = "grid 4 4;block 1 1;block 3 1;block 1 3;block 3 3;";
    private static final String FIRST_WORDS = "word kiln;word lane;word line;word kale;word lime;word nine;";
    private static final String MORE_WORDS = "word ivy;word tea;word ant;word nile;word keel;word lint;";
    private static final String FIRST_GUESS = "letter 0 0 k;guess 0 kiln;";

    private final Parser parser = new Parser();
    private final Input input = parser.input;
    private final Window current = new Window();
    // questions about what would happen are worked out here
    private final Window trial = new Window();
    private final History history = new History();
    private final Window[] saved = new Window[STATE_SLOTS];
    private final int[] output = new int[MAX_SIDE];
    private int outputLength;

    public ShopCross() {
        input.putText(FIRST_GRID);
        input.putText(FIRST_WORDS);
        input.putText(MORE_WORDS);
        input.putText(FIRST_GUESS);
        parser.readText();
        input.length = 0;
        current.copyFrom(parser.window);
    }

    // ---- the input buffer and the text in it

    public int appendInput(int a, int b, int c, int d, int e) throws IllegalStateException {
        if (input.length + Input.APPENDED > MAX_INPUT) {
            throw new IllegalStateException();
        }
        input.putFourBytes(a);
        input.putFourBytes(b);
        input.putFourBytes(c);
        input.putFourBytes(d);
        input.putFourBytes(e);
        return input.length;
    }

    public int truncateInput(int length) throws IllegalArgumentException {
        if (length < 0 || length > input.length) {
            throw new IllegalArgumentException();
        }
        input.length = length;
        return input.length;
    }

    public int load() throws IllegalArgumentException {
        boolean accepted = parser.readText();
        input.length = 0;
        if (!accepted) {
            throw new IllegalArgumentException();
        }
        history.remember(current);
        current.copyFrom(parser.window);
        return current.words.count;
    }

    public int errorCode() {
        return parser.error;
    }

    public int errorPosition() {
        return parser.error == 0 ? NONE : parser.start;
    }

    public int findWord() {
        return current.words.find(input.bytes, 0, input.length);
    }

    // ---- the grid

    public int columns() {
        return current.grid.width;
    }

    public int rows() {
        return current.grid.height;
    }

    public int slotCount() {
        return current.grid.slots;
    }

    public boolean isBlocked(int x, int y) throws IllegalArgumentException {
        requireCell(x, y);
        return current.grid.blocked[Grid.cell(x, y)];
    }

    public int givenLetter(int x, int y) throws IllegalArgumentException {
        requireCell(x, y);
        return current.grid.given[Grid.cell(x, y)];
    }

    public int sureLetter(int x, int y) throws IllegalArgumentException {
        requireCell(x, y);
        return current.sureAt(Grid.cell(x, y));
    }

    public int slotAt(int x, int y, boolean down) throws IllegalArgumentException {
        requireCell(x, y);
        int cell = Grid.cell(x, y);
        return down ? current.grid.downAt[cell] : current.grid.acrossAt[cell];
    }

    public int firstX(int slot) throws IndexOutOfBoundsException {
        requireSlot(slot);
        return current.grid.first[slot] % MAX_SIDE;
    }

    public int firstY(int slot) throws IndexOutOfBoundsException {
        requireSlot(slot);
        return current.grid.first[slot] / MAX_SIDE;
    }

    public int lengthOf(int slot) throws IndexOutOfBoundsException {
        requireSlot(slot);
        return current.grid.size[slot];
    }

    public boolean isDown(int slot) throws IndexOutOfBoundsException {
        requireSlot(slot);
        return current.grid.vertical[slot];
    }

    public int crossingCount(int slot) throws IndexOutOfBoundsException {
        requireSlot(slot);
        return current.grid.countCrossings(slot);
    }

    public int crossingSlot(int slot, int index) throws IndexOutOfBoundsException, NoSuchElementException {
        requireSlot(slot);
        int place = requireCrossing(slot, index);
        return current.grid.otherSlot[slot * MAX_SIDE + place];
    }

    public int crossingPlace(int slot, int index) throws IndexOutOfBoundsException, NoSuchElementException {
        requireSlot(slot);
        return requireCrossing(slot, index);
    }

    // ---- the words

    public int wordCount() {
        return current.words.count;
    }

    public int wordLength(int word) throws IndexOutOfBoundsException {
        requireWord(word);
        return current.words.size[word];
    }

    public int letterOf(int word, int place) throws IndexOutOfBoundsException, NoSuchElementException {
        requireWord(word);
        if (place < 0 || place >= current.words.size[word]) {
            throw new NoSuchElementException();
        }
        return 'a' + current.words.letters[word * MAX_LETTERS + place];
    }

    public int prizeOf(int word) throws IndexOutOfBoundsException {
        requireWord(word);
        return current.words.prize(word);
    }

    public int wordsWith(int letter) throws IllegalArgumentException {
        requireLetter(letter);
        return current.words.holders[letter - 'a'];
    }

    public int prizeOfLetter(int letter) throws IllegalArgumentException {
        requireLetter(letter);
        return current.words.letterPrize(letter - 'a');
    }

    // ---- candidates and guesses

    public int candidateCount(int slot) throws IndexOutOfBoundsException {
        requireSlot(slot);
        return Integer.bitCount(current.candidates[slot]);
    }

    public boolean isCandidate(int slot, int word) throws IndexOutOfBoundsException {
        requireSlot(slot);
        requireWord(word);
        return current.hasCandidate(slot, word);
    }

    public int candidateAt(int slot, int index) throws IndexOutOfBoundsException, NoSuchElementException {
        requireSlot(slot);
        int word = current.findCandidate(slot, index);
        if (word == NONE) {
            throw new NoSuchElementException();
        }
        return word;
    }

    public int state() {
        return current.mood;
    }

    public int level() {
        return current.depth;
    }

    public int guessedSlot(int level) throws NoSuchElementException {
        requireLevel(level);
        return current.guessSlots[level - 1];
    }

    public int guessedWord(int level) throws NoSuchElementException {
        requireLevel(level);
        return current.guessWords[level - 1];
    }

    public int bestSlot() {
        return current.findBestSlot();
    }

    public int bestWord(int slot) throws IndexOutOfBoundsException {
        requireSlot(slot);
        return current.findBestWord(slot);
    }

    public int guessRefusal(int slot, int word) throws IndexOutOfBoundsException {
        requireSlot(slot);
        requireWord(word);
        return current.refusal(slot, word);
    }

    public int leftAfter(int slot, int word) throws IndexOutOfBoundsException {
        requireSlot(slot);
        requireWord(word);
        if (current.refusal(slot, word) != 0) {
            return NONE;
        }
        tryGuess(slot, word);
        return trial.countCandidates();
    }

    public boolean wouldStick(int slot, int word) throws IndexOutOfBoundsException {
        requireSlot(slot);
        requireWord(word);
        if (current.refusal(slot, word) != 0) {
            return false;
        }
        tryGuess(slot, word);
        return trial.mood == STUCK;
    }

    public int emptySlot() {
        return current.findEmptySlot();
    }

    public int candidatesLeft() {
        return current.countCandidates();
    }

    public int prizeNow() {
        return current.sumPrizes();
    }

    public int stepsToEnd() {
        trial.copyFrom(current);
        int steps = trial.makeSteps(MAX_STEPS);
        return trial.canStep() ? NONE : steps;
    }

    public int stateAtEnd() {
        trial.copyFrom(current);
        trial.makeSteps(MAX_STEPS);
        return trial.mood;
    }

    // ---- the counters and the shares

    public int guesses() {
        return current.made;
    }

    public int takenBack() {
        return current.undone;
    }

    public int supportErrors() {
        return current.isNarrowed() ? current.countUnsupported() : 0;
    }

    public int doubleErrors() {
        return current.isNarrowed() ? current.countDoubles() : 0;
    }

    public int levelDifference() {
        return current.made - current.undone - current.lost - current.depth;
    }

    public float sureShare() {
        int open = current.grid.countOpen();
        return open == 0 ? 0.0f : (float) current.countSure() / (float) open;
    }

    public double averageCandidates() {
        int slots = current.grid.slots;
        return slots == 0 ? 0.0 : (double) current.countCandidates() / (double) slots;
    }

    // ---- what changes the state

    public int addWord(int word) throws IllegalArgumentException, IllegalStateException {
        int size = input.spell(word);
        if (size < MIN_LETTERS) {
            throw new IllegalArgumentException();
        }
        Words words = current.words;
        if (words.count >= MAX_WORDS || words.find(input.spelled, 0, size) != NONE) {
            throw new IllegalStateException();
        }
        history.remember(current);
        current.putWord(input.spelled, 0, size);
        return words.count - 1;
    }

    public int setLetter(int x, int y, int letter) throws IllegalArgumentException, IllegalStateException {
        requireCell(x, y);
        if (letter != 0) {
            requireLetter(letter);
        }
        int cell = Grid.cell(x, y);
        if (current.grid.blocked[cell]) {
            throw new IllegalStateException();
        }
        history.remember(current);
        int former = current.grid.given[cell];
        current.putLetter(cell, letter);
        return former;
    }

    public int guess(int slot, int word) throws IndexOutOfBoundsException, IllegalStateException {
        requireSlot(slot);
        requireWord(word);
        if (current.refusal(slot, word) != 0) {
            throw new IllegalStateException();
        }
        history.remember(current);
        current.putGuess(slot, word);
        return current.mood;
    }

    public int takeBack() throws IllegalStateException {
        if (current.depth == 0) {
            throw new IllegalStateException();
        }
        history.remember(current);
        current.dropGuess();
        return current.mood;
    }

    public int step() throws IllegalStateException {
        if (!current.canStep()) {
            throw new IllegalStateException();
        }
        history.remember(current);
        current.makeSteps(1);
        return current.mood;
    }

    public int solve(int most) throws IllegalArgumentException {
        if (most < 1 || most > MAX_STEPS) {
            throw new IllegalArgumentException();
        }
        history.remember(current);
        return current.makeSteps(most);
    }

    // ---- the output

    public int writeRow(int y) throws IllegalArgumentException {
        requireCell(0, y);
        outputLength = current.grid.width;
        for (int x = 0; x < outputLength; x++) {
            output[x] = current.signOf(Grid.cell(x, y));
        }
        return outputLength;
    }

    public int outputByte(int position) throws NoSuchElementException {
        if (position < 0 || position >= outputLength) {
            throw new NoSuchElementException();
        }
        return output[position];
    }

    // ---- saved and remembered states

    public int save(int number) throws IndexOutOfBoundsException {
        requireStateSlot(number);
        Window copy = saved[number];
        if (copy == null) {
            copy = new Window();
            saved[number] = copy;
        }
        copy.copyFrom(current);
        return current.words.count;
    }

    public int restore(int number) throws IndexOutOfBoundsException, IllegalStateException {
        requireStateSlot(number);
        Window copy = saved[number];
        if (copy == null) {
            throw new IllegalStateException();
        }
        history.remember(current);
        current.copyFrom(copy);
        return current.words.count;
    }

    public int undo() throws IllegalStateException {
        Window former = history.latest();
        if (former == null) {
            throw new IllegalStateException();
        }
        current.copyFrom(former);
        history.forgetLatest();
        return history.count;
    }

    // ---- what the methods above require of their arguments

    private void requireCell(int x, int y) {
        if (!current.grid.hasCell(x, y)) {
            throw new IllegalArgumentException();
        }
    }

    private void requireLetter(int letter) {
        if (letter < 'a' || letter > 'z') {
            throw new IllegalArgumentException();
        }
    }

    private void requireSlot(int slot) {
        if (slot < 0 || slot >= current.grid.slots) {
            throw new IndexOutOfBoundsException();
        }
    }

    private void requireWord(int word) {
        if (word < 0 || word >= current.words.count) {
            throw new IndexOutOfBoundsException();
        }
    }

    private void requireStateSlot(int number) {
        if (number < 0 || number >= STATE_SLOTS) {
            throw new IndexOutOfBoundsException();
        }
    }

    private void requireLevel(int level) {
        if (level < 1 || level > current.depth) {
            throw new NoSuchElementException();
        }
    }

    /** The place of the crossing with this index. */
    private int requireCrossing(int slot, int index) {
        int place = current.grid.findCrossing(slot, index);
        if (place == NONE) {
            throw new NoSuchElementException();
        }
        return place;
    }

    private void tryGuess(int slot, int word) {
        trial.copyFrom(current);
        trial.putGuess(slot, word);
    }

    /** The bytes that have been appended, 0 to 255 each, and the letters of a word that is told as a number. */
    private static final class Input {
        static final int APPENDED = 20;
        private static final int LETTER_BITS = 5;

        final int[] bytes = new int[MAX_INPUT];
        int length;
        final int[] spelled = new int[MAX_LETTERS];

        void put(int value) {
            if (length < MAX_INPUT) {
                bytes[length] = value;
                length++;
            }
        }

        void putFourBytes(int four) {
            put(four >>> 24);
            put((four >>> 16) & 255);
            put((four >>> 8) & 255);
            put(four & 255);
        }

        void putText(String text) {
            for (int i = 0; i < text.length(); i++) {
                put(text.charAt(i));
            }
        }

        /** Spells the letters of the number; answers how many there are, 0 if it is not made of letters. */
        int spell(int number) {
            if ((number >>> LETTER_BITS * MAX_LETTERS) != 0) {
                return 0;
            }
            int size = 0;
            for (int left = MAX_LETTERS - 1; left >= 0; left--) {
                int letter = (number >>> LETTER_BITS * left) & 31;
                boolean leading = letter == 0 && size == 0;
                if (!leading && (letter < 1 || letter > ALPHABET)) {
                    return 0;
                }
                if (!leading) {
                    spelled[size] = 'a' + letter - 1;
                    size++;
                }
            }
            return size;
        }
    }

    /** The cells and the slots; a cell is told by one number, the same in grids of all sizes. */
    private static final class Grid {
        int width;
        int height;
        final boolean[] blocked = new boolean[MAX_CELLS];
        final int[] given = new int[MAX_CELLS];
        int slots;
        final int[] first = new int[MAX_SLOTS];
        final int[] size = new int[MAX_SLOTS];
        final boolean[] vertical = new boolean[MAX_SLOTS];
        final int[] acrossAt = new int[MAX_CELLS];
        final int[] downAt = new int[MAX_CELLS];
        // by slot * MAX_SIDE + place: the slot that is crossed there, or NONE, and the index of its own place
        final int[] otherSlot = new int[MAX_PLACES];
        final int[] otherPlace = new int[MAX_PLACES];

        static int cell(int x, int y) {
            return y * MAX_SIDE + x;
        }

        boolean hasCell(int x, int y) {
            return x >= 0 && x < width && y >= 0 && y < height;
        }

        boolean isOpen(int x, int y) {
            return hasCell(x, y) && !blocked[cell(x, y)];
        }

        void start(int newWidth, int newHeight) {
            width = newWidth;
            height = newHeight;
            for (int cell = 0; cell < MAX_CELLS; cell++) {
                blocked[cell] = false;
                given[cell] = 0;
            }
            findSlots();
        }

        void findSlots() {
            slots = 0;
            for (int cell = 0; cell < MAX_CELLS; cell++) {
                acrossAt[cell] = NONE;
                downAt[cell] = NONE;
            }
            for (int y = 0; y < height; y++) {
                for (int x = 0; x < width; x++) {
                    addSlot(x, y, false);
                    addSlot(x, y, true);
                }
            }
            for (int slot = 0; slot < slots; slot++) {
                findCrossings(slot);
            }
        }

        /** Adds the slot that begins at the cell, if one does. */
        private void addSlot(int x, int y, boolean down) {
            int right = down ? 0 : 1;
            int below = down ? 1 : 0;
            boolean begins = isOpen(x, y) && !isOpen(x - right, y - below) && isOpen(x + right, y + below);
            if (!begins || slots >= MAX_SLOTS) {
                return;
            }
            int length = 0;
            while (length < MAX_SIDE && isOpen(x + length * right, y + length * below)) {
                int cell = cell(x + length * right, y + length * below);
                if (down) {
                    downAt[cell] = slots;
                } else {
                    acrossAt[cell] = slots;
                }
                length++;
            }
            first[slots] = cell(x, y);
            size[slots] = length;
            vertical[slots] = down;
            slots++;
        }

        private void findCrossings(int slot) {
            for (int place = 0; place < size[slot]; place++) {
                int cell = first[slot] + place * stride(slot);
                int other = vertical[slot] ? acrossAt[cell] : downAt[cell];
                int index = slot * MAX_SIDE + place;
                otherSlot[index] = other;
                otherPlace[index] = other == NONE ? NONE : other * MAX_SIDE + placeIn(other, cell);
            }
        }

        private int stride(int slot) {
            return vertical[slot] ? MAX_SIDE : 1;
        }

        int placeIn(int slot, int cell) {
            int distance = cell - first[slot];
            return vertical[slot] ? distance / MAX_SIDE : distance;
        }

        int countCrossings(int slot) {
            int crossings = 0;
            for (int place = 0; place < size[slot]; place++) {
                if (otherSlot[slot * MAX_SIDE + place] != NONE) {
                    crossings++;
                }
            }
            return crossings;
        }

        int findCrossing(int slot, int index) {
            int crossings = 0;
            for (int place = 0; place < size[slot]; place++) {
                if (otherSlot[slot * MAX_SIDE + place] != NONE) {
                    if (crossings == index) {
                        return place;
                    }
                    crossings++;
                }
            }
            return NONE;
        }

        boolean hasGiven() {
            for (int cell = 0; cell < MAX_CELLS; cell++) {
                if (given[cell] != 0) {
                    return true;
                }
            }
            return false;
        }

        int countOpen() {
            int open = 0;
            for (int y = 0; y < height; y++) {
                for (int x = 0; x < width; x++) {
                    if (!blocked[cell(x, y)]) {
                        open++;
                    }
                }
            }
            return open;
        }

        void copyFrom(Grid other) {
            width = other.width;
            height = other.height;
            // System.arraycopy is kept to arrays of numbers
            for (int cell = 0; cell < MAX_CELLS; cell++) {
                blocked[cell] = other.blocked[cell];
            }
            System.arraycopy(other.given, 0, given, 0, MAX_CELLS);
            slots = other.slots;
            System.arraycopy(other.first, 0, first, 0, MAX_SLOTS);
            System.arraycopy(other.size, 0, size, 0, MAX_SLOTS);
            for (int slot = 0; slot < MAX_SLOTS; slot++) {
                vertical[slot] = other.vertical[slot];
            }
            System.arraycopy(other.acrossAt, 0, acrossAt, 0, MAX_CELLS);
            System.arraycopy(other.downAt, 0, downAt, 0, MAX_CELLS);
            System.arraycopy(other.otherSlot, 0, otherSlot, 0, MAX_PLACES);
            System.arraycopy(other.otherPlace, 0, otherPlace, 0, MAX_PLACES);
        }
    }

    /** The list of words; letters are held as 0 for a to 25 for z. */
    private static final class Words {
        private static final int ALL_LETTERS = MAX_WORDS * MAX_LETTERS;

        int count;
        final int[] size = new int[MAX_WORDS];
        final int[] letters = new int[ALL_LETTERS];
        // by letter: how many words contain it
        final int[] holders = new int[ALPHABET];

        void clear() {
            count = 0;
            for (int letter = 0; letter < ALPHABET; letter++) {
                holders[letter] = 0;
            }
        }

        void add(int[] text, int from, int length) {
            if (count >= MAX_WORDS) {
                return;
            }
            int seen = 0;
            for (int place = 0; place < length; place++) {
                int letter = text[from + place] - 'a';
                letters[count * MAX_LETTERS + place] = letter;
                if (((seen >> letter) & 1) == 0) {
                    holders[letter]++;
                }
                seen |= 1 << letter;
            }
            size[count] = length;
            count++;
        }

        int find(int[] text, int from, int length) {
            for (int word = 0; word < count; word++) {
                if (size[word] == length && isAt(word, text, from)) {
                    return word;
                }
            }
            return NONE;
        }

        private boolean isAt(int word, int[] text, int from) {
            for (int place = 0; place < size[word]; place++) {
                if (text[from + place] - 'a' != letters[word * MAX_LETTERS + place]) {
                    return false;
                }
            }
            return true;
        }

        int letterPrize(int letter) {
            return Math.max(1, 10 - holders[letter]);
        }

        int prize(int word) {
            int sum = 0;
            for (int place = 0; place < size[word]; place++) {
                sum += letterPrize(letters[word * MAX_LETTERS + place]);
            }
            return sum;
        }

        void copyFrom(Words other) {
            count = other.count;
            System.arraycopy(other.size, 0, size, 0, MAX_WORDS);
            System.arraycopy(other.letters, 0, letters, 0, ALL_LETTERS);
            System.arraycopy(other.holders, 0, holders, 0, ALPHABET);
        }
    }

    /** The whole state. The candidates of a slot are a set of bits, one for each word. */
    private static final class Window {
        private static final int MAX_LEVELS = MAX_SLOTS;
        private static final int ALL_BEFORE = MAX_LEVELS * MAX_SLOTS;
        // each round but the last takes a candidate away
        private static final int MAX_ROUNDS = MAX_SLOTS * MAX_WORDS + 1;

        final Grid grid = new Grid();
        final Words words = new Words();
        final int[] candidates = new int[MAX_SLOTS];
        int mood;
        int depth;
        final int[] guessSlots = new int[MAX_LEVELS];
        final int[] guessWords = new int[MAX_LEVELS];
        // by guess and slot: the candidates before the guess
        final int[] before = new int[ALL_BEFORE];
        int made;
        int undone;
        int lost;
        // used within one round only, by slot and place: a bit for each letter that a candidate has there
        private final int[] offered = new int[MAX_PLACES];

        void copyFrom(Window other) {
            grid.copyFrom(other.grid);
            words.copyFrom(other.words);
            System.arraycopy(other.candidates, 0, candidates, 0, MAX_SLOTS);
            mood = other.mood;
            depth = other.depth;
            System.arraycopy(other.guessSlots, 0, guessSlots, 0, MAX_LEVELS);
            System.arraycopy(other.guessWords, 0, guessWords, 0, MAX_LEVELS);
            System.arraycopy(other.before, 0, before, 0, ALL_BEFORE);
            made = other.made;
            undone = other.undone;
            lost = other.lost;
        }

        // ---- what makes the candidates begin anew

        void start(int width, int height) {
            grid.start(width, height);
            words.clear();
            depth = 0;
            made = 0;
            undone = 0;
            lost = 0;
            beginAnew();
            narrow();
        }

        void putBlock(int cell) {
            grid.blocked[cell] = true;
            grid.findSlots();
            beginAnew();
            narrow();
        }

        void putWord(int[] text, int from, int length) {
            words.add(text, from, length);
            beginAnew();
            narrow();
        }

        void putLetter(int cell, int letter) {
            grid.given[cell] = letter;
            beginAnew();
            narrow();
        }

        private void beginAnew() {
            lost += depth;
            depth = 0;
            for (int slot = 0; slot < grid.slots; slot++) {
                int fitting = 0;
                for (int word = 0; word < words.count; word++) {
                    if (fits(slot, word)) {
                        fitting |= 1 << word;
                    }
                }
                candidates[slot] = fitting;
            }
        }

        private boolean fits(int slot, int word) {
            if (words.size[word] != grid.size[slot]) {
                return false;
            }
            for (int place = 0; place < grid.size[slot]; place++) {
                int given = grid.given[grid.first[slot] + place * grid.stride(slot)];
                if (given != 0 && given - 'a' != words.letters[word * MAX_LETTERS + place]) {
                    return false;
                }
            }
            return true;
        }

        // ---- narrowing

        private void narrow() {
            boolean changed = true;
            for (int round = 0; changed && round < MAX_ROUNDS && findEmptySlot() == NONE; round++) {
                noteOfferedLetters();
                boolean crossed = narrowByCrossings();
                boolean single = narrowBySingles();
                changed = crossed || single;
            }
            mood = moodNow();
        }

        private int moodNow() {
            if (findEmptySlot() != NONE) {
                return STUCK;
            }
            return grid.slots > 0 && findBestSlot() == NONE ? SOLVED : OPEN;
        }

        private boolean narrowByCrossings() {
            boolean changed = false;
            for (int slot = 0; slot < grid.slots; slot++) {
                int kept = candidates[slot];
                for (int place = 0; place < grid.size[slot]; place++) {
                    kept &= ~unsupported(slot, place);
                }
                changed = changed || kept != candidates[slot];
                candidates[slot] = kept;
            }
            return changed;
        }

        private void noteOfferedLetters() {
            for (int slot = 0; slot < grid.slots; slot++) {
                for (int place = 0; place < grid.size[slot]; place++) {
                    offered[slot * MAX_SIDE + place] = lettersAt(slot, place);
                }
            }
        }

        private int lettersAt(int slot, int place) {
            int found = 0;
            int rest = candidates[slot];
            for (int left = Integer.bitCount(rest); left > 0; left--) {
                int word = Integer.numberOfTrailingZeros(rest);
                found |= 1 << words.letters[word * MAX_LETTERS + place];
                rest &= rest - 1;
            }
            return found;
        }

        /** The candidates of the slot whose letter at the place the crossed slot does not offer. */
        private int unsupported(int slot, int place) {
            int otherPlace = grid.otherPlace[slot * MAX_SIDE + place];
            if (otherPlace == NONE) {
                return 0;
            }
            int found = 0;
            int rest = candidates[slot];
            for (int left = Integer.bitCount(rest); left > 0; left--) {
                int word = Integer.numberOfTrailingZeros(rest);
                int letter = words.letters[word * MAX_LETTERS + place];
                if (((offered[otherPlace] >> letter) & 1) == 0) {
                    found |= 1 << word;
                }
                rest &= rest - 1;
            }
            return found;
        }

        private boolean narrowBySingles() {
            int once = 0;
            int twice = 0;
            for (int slot = 0; slot < grid.slots; slot++) {
                if (hasSingle(slot)) {
                    twice |= once & candidates[slot];
                    once |= candidates[slot];
                }
            }
            boolean changed = false;
            for (int slot = 0; slot < grid.slots; slot++) {
                // the word of a slot that has no other stays there unless another slot has just this one, too
                int kept = candidates[slot] & ~(hasSingle(slot) ? twice : once);
                changed = changed || kept != candidates[slot];
                candidates[slot] = kept;
            }
            return changed;
        }

        // ---- guesses and steps

        /** The first reason for which the guess is refused, 0 if there is none. */
        int refusal(int slot, int word) {
            if (mood != OPEN) {
                return 1;
            }
            if (!hasCandidate(slot, word)) {
                return 2;
            }
            return hasSingle(slot) ? 3 : 0;
        }

        void putGuess(int slot, int word) {
            pushGuess(slot, word);
            narrow();
        }

        private void pushGuess(int slot, int word) {
            if (depth >= MAX_LEVELS) {
                return;
            }
            System.arraycopy(candidates, 0, before, depth * MAX_SLOTS, MAX_SLOTS);
            guessSlots[depth] = slot;
            guessWords[depth] = word;
            depth++;
            made++;
            candidates[slot] = 1 << word;
        }

        void dropGuess() {
            popGuess();
            narrow();
        }

        private void popGuess() {
            if (depth <= 0) {
                return;
            }
            depth--;
            undone++;
            System.arraycopy(before, depth * MAX_SLOTS, candidates, 0, MAX_SLOTS);
            candidates[guessSlots[depth]] &= ~(1 << guessWords[depth]);
        }

        boolean canStep() {
            return grid.slots > 0 && (mood == OPEN || mood == STUCK);
        }

        /** Makes steps as long as they are not refused, but at most so many; answers how many. */
        int makeSteps(int most) {
            int steps = 0;
            while (steps < most && canStep()) {
                steps++;
                if (mood == STUCK && depth == 0) {
                    mood = HOPELESS;
                    break;
                }
                int slot = findBestSlot();
                if (mood == OPEN && slot != NONE) {
                    pushGuess(slot, findBestWord(slot));
                } else {
                    popGuess();
                }
                narrow();
            }
            return steps;
        }

        // ---- questions

        boolean hasCandidate(int slot, int word) {
            return ((candidates[slot] >> word) & 1) == 1;
        }

        boolean hasSingle(int slot) {
            return Integer.bitCount(candidates[slot]) == 1;
        }

        int findCandidate(int slot, int index) {
            int candidatesBefore = 0;
            for (int word = 0; word < words.count; word++) {
                if (hasCandidate(slot, word)) {
                    if (candidatesBefore == index) {
                        return word;
                    }
                    candidatesBefore++;
                }
            }
            return NONE;
        }

        int findEmptySlot() {
            for (int slot = 0; slot < grid.slots; slot++) {
                if (candidates[slot] == 0) {
                    return slot;
                }
            }
            return NONE;
        }

        int findBestSlot() {
            int best = NONE;
            int fewest = MAX_WORDS + 1;
            for (int slot = 0; slot < grid.slots; slot++) {
                int number = Integer.bitCount(candidates[slot]);
                if (number > 1 && number < fewest) {
                    best = slot;
                    fewest = number;
                }
            }
            return best;
        }

        int findBestWord(int slot) {
            int best = NONE;
            int greatest = 0;
            for (int word = 0; word < words.count; word++) {
                if (hasCandidate(slot, word) && words.prize(word) > greatest) {
                    best = word;
                    greatest = words.prize(word);
                }
            }
            return best;
        }

        int countCandidates() {
            int number = 0;
            for (int slot = 0; slot < grid.slots; slot++) {
                number += Integer.bitCount(candidates[slot]);
            }
            return number;
        }

        int sumPrizes() {
            int sum = 0;
            for (int slot = 0; slot < grid.slots; slot++) {
                for (int word = 0; word < words.count; word++) {
                    if (candidates[slot] == 1 << word) {
                        sum += words.prize(word);
                    }
                }
            }
            return sum;
        }

        boolean isNarrowed() {
            return mood == OPEN || mood == SOLVED;
        }

        int countUnsupported() {
            noteOfferedLetters();
            int number = 0;
            for (int slot = 0; slot < grid.slots; slot++) {
                for (int place = 0; place < grid.size[slot]; place++) {
                    number += Integer.bitCount(unsupported(slot, place));
                }
            }
            return number;
        }

        int countDoubles() {
            int number = 0;
            for (int slot = 0; slot < grid.slots; slot++) {
                if (hasSingle(slot) && isElsewhere(slot)) {
                    number++;
                }
            }
            return number;
        }

        /** Whether another slot shares a candidate with this one. */
        private boolean isElsewhere(int slot) {
            for (int other = 0; other < grid.slots; other++) {
                if (other != slot && (candidates[other] & candidates[slot]) != 0) {
                    return true;
                }
            }
            return false;
        }

        int sureAt(int cell) {
            int across = grid.acrossAt[cell];
            int down = grid.downAt[cell];
            int found = lettersIn(across, cell) | lettersIn(down, cell);
            boolean empty = isEmpty(across) || isEmpty(down);
            if (empty || Integer.bitCount(found) != 1) {
                return 0;
            }
            return 'a' + Integer.numberOfTrailingZeros(found);
        }

        private int lettersIn(int slot, int cell) {
            return slot == NONE ? 0 : lettersAt(slot, grid.placeIn(slot, cell));
        }

        private boolean isEmpty(int slot) {
            return slot != NONE && candidates[slot] == 0;
        }

        int countSure() {
            int number = 0;
            for (int y = 0; y < grid.height; y++) {
                for (int x = 0; x < grid.width; x++) {
                    if (sureAt(Grid.cell(x, y)) != 0) {
                        number++;
                    }
                }
            }
            return number;
        }

        int signOf(int cell) {
            if (grid.blocked[cell]) {
                return '#';
            }
            int letter = sureAt(cell);
            return letter == 0 ? '.' : letter;
        }
    }

    /** The states before the latest undoable calls, in a ring whose places are used again. */
    private static final class History {
        private final Window[] ring = new Window[MAX_REMEMBERED];
        private int next;
        int count;

        void remember(Window window) {
            Window copy = ring[next];
            if (copy == null) {
                copy = new Window();
                ring[next] = copy;
            }
            copy.copyFrom(window);
            next = (next + 1) % MAX_REMEMBERED;
            count = Math.min(count + 1, MAX_REMEMBERED);
        }

        Window latest() {
            return count == 0 ? null : ring[placeOfLatest()];
        }

        void forgetLatest() {
            if (count > 0) {
                next = placeOfLatest();
                count--;
            }
        }

        private int placeOfLatest() {
            return (next + MAX_REMEMBERED - 1) % MAX_REMEMBERED;
        }
    }

    /** Reads a text token by token; what a statement says is done when the whole statement has been read. */
    private static final class Parser {
        // what kind of token was read
        private static final int END = 0, LETTERS = 1, DIGITS = 2, SIGN = 3;
        // what statement was read
        private static final int OTHER = 0, BLOCK = 1, WORD = 2, LETTER = 3, GUESS = 4, BACK = 5, SOLVE = 6;
        // numbers from here on are out of every range
        private static final int TOO_GREAT = 1000;

        final Input input = new Input();
        // what the statements so far have made
        final Window window = new Window();
        private final int[] text = input.bytes;
        int error;
        // where the latest token begins and where it ends
        int start;
        private int end;
        private int kind;
        private int statement;
        private int width;
        private int height;
        private int column;
        private int row;
        private int letter;
        private int slot;
        private int word;
        private int wordStart;
        private int wordSize;
        private int steps;

        /** Makes the window what the whole input says; answers whether it has no error. */
        boolean readText() {
            error = 0;
            end = 0;
            if (!readGrid()) {
                return false;
            }
            window.start(width, height);
            for (int statements = 0; statements < MAX_INPUT; statements++) {
                nextToken();
                if (kind == END) {
                    return true;
                }
                if (!readStatement()) {
                    return false;
                }
                doStatement();
            }
            return true;
        }

        /** Answers false, so that the methods that read can return what it answers. */
        private boolean fail(int code) {
            error = code;
            return false;
        }

        // ---- statements

        private boolean readGrid() {
            nextToken();
            if (!tokenIs("grid")) {
                return fail(1);
            }
            width = readNumber(MIN_SIDE, MAX_SIDE, 2);
            if (width == NONE) {
                return false;
            }
            height = readNumber(MIN_SIDE, MAX_SIDE, 2);
            return height != NONE && readSemicolon();
        }

        private boolean readStatement() {
            statement = statementOfToken();
            switch (statement) {
                case BLOCK:
                    return readBlock() && readSemicolon();
                case WORD:
                    return readNewWord() && readSemicolon();
                case LETTER:
                    return readLetter() && readSemicolon();
                case GUESS:
                    return readGuess() && readSemicolon();
                case BACK:
                    return readBack() && readSemicolon();
                case SOLVE:
                    return readSolve() && readSemicolon();
                default:
                    return fail(1);
            }
        }

        private int statementOfToken() {
            if (tokenIs("block")) {
                return BLOCK;
            }
            if (tokenIs("word")) {
                return WORD;
            }
            if (tokenIs("letter")) {
                return LETTER;
            }
            if (tokenIs("guess")) {
                return GUESS;
            }
            if (tokenIs("back")) {
                return BACK;
            }
            return tokenIs("solve") ? SOLVE : OTHER;
        }

        private void doStatement() {
            switch (statement) {
                case BLOCK:
                    window.putBlock(Grid.cell(column, row));
                    break;
                case WORD:
                    window.putWord(text, wordStart, wordSize);
                    break;
                case LETTER:
                    window.putLetter(Grid.cell(column, row), letter);
                    break;
                case GUESS:
                    window.putGuess(slot, word);
                    break;
                case BACK:
                    window.dropGuess();
                    break;
                case SOLVE:
                    window.makeSteps(steps);
                    break;
                default:
                    break;
            }
        }

        private boolean readBlock() {
            if (window.words.count > 0 || window.grid.hasGiven()) {
                return fail(6);
            }
            return readOpenCell();
        }

        private boolean readNewWord() {
            if (window.words.count >= MAX_WORDS) {
                return fail(5);
            }
            nextToken();
            if (kind != LETTERS) {
                return fail(1);
            }
            wordStart = start;
            wordSize = end - start;
            if (wordSize < MIN_LETTERS || wordSize > MAX_LETTERS) {
                return fail(2);
            }
            return window.words.find(text, wordStart, wordSize) == NONE || fail(3);
        }

        private boolean readLetter() {
            if (!readOpenCell()) {
                return false;
            }
            nextToken();
            if (kind != LETTERS || end - start != 1) {
                return fail(1);
            }
            letter = text[start];
            return true;
        }

        private boolean readGuess() {
            slot = readNumber(0, window.grid.slots - 1, 4);
            if (slot == NONE) {
                return false;
            }
            nextToken();
            if (kind != LETTERS) {
                return fail(1);
            }
            word = window.words.find(text, start, end - start);
            if (word == NONE) {
                return fail(4);
            }
            return window.refusal(slot, word) == 0 || fail(6);
        }

        private boolean readBack() {
            return window.depth > 0 || fail(6);
        }

        private boolean readSolve() {
            steps = readNumber(0, MAX_STEPS, 2);
            return steps != NONE;
        }

        private boolean readOpenCell() {
            column = readNumber(0, window.grid.width - 1, 2);
            if (column == NONE) {
                return false;
            }
            row = readNumber(0, window.grid.height - 1, 2);
            if (row == NONE) {
                return false;
            }
            return !window.grid.blocked[Grid.cell(column, row)] || fail(3);
        }

        private boolean readSemicolon() {
            nextToken();
            return (kind == SIGN && text[start] == ';') || fail(1);
        }

        /** The number that comes; NONE if there is an error, which has the given code if it is out of range. */
        private int readNumber(int least, int greatest, int codeOutOfRange) {
            nextToken();
            if (kind != DIGITS) {
                fail(1);
                return NONE;
            }
            int value = 0;
            for (int i = start; i < end; i++) {
                value = Math.min(value * 10 + text[i] - '0', TOO_GREAT);
            }
            if (value < least || value > greatest) {
                fail(codeOutOfRange);
                return NONE;
            }
            return value;
        }

        // ---- tokens

        private void nextToken() {
            start = end;
            while (start < input.length && (text[start] == ' ' || text[start] == '\n')) {
                start++;
            }
            end = start;
            kind = END;
            if (start >= input.length) {
                return;
            }
            kind = kindOf(text[start]);
            end++;
            while (kind != SIGN && end < input.length && kindOf(text[end]) == kind) {
                end++;
            }
        }

        private int kindOf(int sign) {
            if (sign >= 'a' && sign <= 'z') {
                return LETTERS;
            }
            return sign >= '0' && sign <= '9' ? DIGITS : SIGN;
        }

        private boolean tokenIs(String name) {
            if (kind != LETTERS || end - start != name.length()) {
                return false;
            }
            for (int i = 0; i < name.length(); i++) {
                if (text[start + i] != name.charAt(i)) {
                    return false;
                }
            }
            return true;
        }
    }
}
