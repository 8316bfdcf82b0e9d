import java.lang.reflect.InvocationTargetException;
import java.lang.reflect.Method;
import java.lang.reflect.Modifier;
import java.util.ArrayList;
import java.util.List;
import java.util.Map;
import java.util.Random;
import java.util.TreeMap;

/** Runs of calls that are the same each time, answered by ShopCross and by the naive Model; they must agree. */
public final class RandomRunsTest {
    private static final int RUNS = 400;
    private static final int TEXTS = 1500;
    private static final int CALLS = 512;
    private static final String[] CHANGES = {"addWord", "setLetter", "guess", "takeBack", "step", "solve", "save", "restore", "undo"};

    private final Random random;
    private final Texts texts;
    private final ShopCross shop = new ShopCross();
    private final Model model = new Model();
    private final int run;
    private int calls;
    private static final Map<String, Method> FACE = new TreeMap<>();
    private static final Map<String, Integer> REACHED = new TreeMap<>();
    private static final List<String> WRONG = new ArrayList<>();

    private RandomRunsTest(int run) {
        this.run = run;
        random = new Random(run);
        texts = new Texts(random);
    }

    public static void main(String[] args) {
        for (Method method : ShopCross.class.getDeclaredMethods()) {
            if (Modifier.isPublic(method.getModifiers())) {
                FACE.put(method.getName(), method);
            }
        }
        for (int run = 0; run < RUNS && WRONG.isEmpty(); run++) {
            new RandomRunsTest(run).go();
        }
        for (int run = RUNS; run < RUNS + TEXTS && WRONG.isEmpty(); run++) {
            new RandomRunsTest(run).goByText();
        }
        checkReach();
        if (args.length > 0) {
            REACHED.forEach((what, times) -> System.out.println(what + ": " + times));
        }
        WRONG.forEach(System.out::println);
        System.out.println(WRONG.isEmpty() ? "RandomRunsTest: all runs agree" : "RandomRunsTest: failed");
        if (!WRONG.isEmpty()) {
            System.exit(1);
        }
    }

    /** The runs are worth something only if they come to all the places that matter. */
    private static void checkReach() {
        for (String name : FACE.keySet()) {
            if (FACE.get(name).getExceptionTypes().length > 0) {
                expectReached(name + " throws");
            }
            expectReached(name + " answers");
        }
        for (int code = 0; code <= 6; code++) {
            expectReached("errorCode " + code);
        }
        for (int state = 0; state <= 3; state++) {
            expectReached("state " + state);
            expectReached("guessRefusal " + state);
        }
        expectReached("stepsToEnd -1");
        expectReached("undo 7");
        expectReached("wordCount 30");
    }

    private static void expectReached(String what) {
        if (!REACHED.containsKey(what)) {
            WRONG.add("no run came to: " + what);
        }
    }

    private void go() {
        while (calls < CALLS && WRONG.isEmpty()) {
            int choice = random.nextInt(100);
            if (choice < 3) {
                loadText();
            } else if (choice == 3 && random.nextInt(10) == 0) {
                append(texts.word(585 + random.nextInt(16), 3));
                call("appendInput", arguments("appendInput"));
            } else if (choice < 30) {
                String name = CHANGES[random.nextInt(CHANGES.length)];
                call(name, arguments(name));
                call("candidatesLeft");
                call("state");
            } else {
                List<String> names = new ArrayList<>(FACE.keySet());
                String name = names.get(random.nextInt(names.size()));
                call(name, arguments(name));
            }
        }
    }

    /** One text, and what has come of it. */
    private void goByText() {
        loadText();
        for (String name : FACE.keySet()) {
            boolean asks = FACE.get(name).getParameterCount() == 0 && !List.of("undo", "takeBack", "step").contains(name);
            if (asks && !name.equals("load")) {
                call(name);
            }
        }
        for (int slot = 0; slot < model.slotCount(); slot++) {
            call("candidateCount", slot);
            call("bestWord", slot);
        }
        for (int y = 0; y < model.rows(); y++) {
            call("writeRow", y);
            for (int x = 0; x < model.columns(); x++) {
                call("outputByte", x);
            }
        }
    }

    private void loadText() {
        call("truncateInput", 0);
        append(texts.next());
        call("load");
        call("errorCode");
        call("errorPosition");
    }

    private void append(String text) {
        for (int at = 0; at < text.length(); at += 20) {
            Object[] five = new Object[5];
            for (int i = 0; i < 5; i++) {
                int four = 0;
                for (int j = 0; j < 4; j++) {
                    int place = at + i * 4 + j;
                    four = four << 8 | (place < text.length() ? text.charAt(place) : 0);
                }
                five[i] = four;
            }
            call("appendInput", five);
        }
        call("truncateInput", text.length());
    }

    private Object[] arguments(String name) {
        switch (name) {
            case "appendInput":
                return new Object[] {random.nextInt(), random.nextInt(), random.nextInt(), random.nextInt(), random.nextInt()};
            case "addWord":
                return new Object[] {wordNumber()};
            case "setLetter":
                return new Object[] {column(), row(), random.nextInt(3) == 0 ? 0 : letter()};
            case "isBlocked", "givenLetter", "sureLetter":
                return new Object[] {column(), row()};
            case "slotAt":
                return new Object[] {column(), row(), random.nextBoolean()};
            case "writeRow":
                return new Object[] {row()};
            case "wordsWith", "prizeOfLetter":
                return new Object[] {letter()};
            case "guess", "leftAfter", "wouldStick", "guessRefusal", "isCandidate":
                return random.nextInt(4) > 0 ? likelyGuess() : new Object[] {slot(), word()};
            case "crossingSlot", "crossingPlace", "candidateAt":
                return new Object[] {slot(), near(4)};
            case "wordLength", "prizeOf":
                return new Object[] {word()};
            case "letterOf":
                return new Object[] {word(), near(5)};
            case "guessedSlot", "guessedWord":
                return new Object[] {near(model.level() + 1)};
            case "solve":
                return new Object[] {random.nextInt(4) == 0 ? 195 + random.nextInt(10) : near(8)};
            case "truncateInput":
                return new Object[] {near(40)};
            case "outputByte":
                return new Object[] {near(6)};
            case "save", "restore":
                return new Object[] {near(2)};
            default:
                return FACE.get(name).getParameterCount() == 0 ? new Object[0] : new Object[] {slot()};
        }
    }

    private int column() {
        return near(model.columns());
    }

    private int row() {
        return near(model.rows());
    }

    private int slot() {
        return near(model.slotCount());
    }

    private int word() {
        return near(model.wordCount());
    }

    private Object[] likelyGuess() {
        int slot = model.bestSlot();
        if (random.nextBoolean() && model.slotCount() > 0) {
            slot = random.nextInt(model.slotCount());
        }
        if (slot < 0 || model.candidateCount(slot) == 0) {
            return new Object[] {slot(), word()};
        }
        return new Object[] {slot, model.candidateAt(slot, random.nextInt(model.candidateCount(slot)))};
    }

    /** Mostly from 0 and below the bound, sometimes just beyond it, rarely far off. */
    private int near(int bound) {
        switch (random.nextInt(40)) {
            case 0:
                return -1;
            case 1, 2:
                return bound;
            case 3:
                return random.nextInt();
            case 4:
                return random.nextBoolean() ? Integer.MAX_VALUE : Integer.MIN_VALUE;
            default:
                return random.nextInt(Math.max(bound, 1));
        }
    }

    private int letter() {
        return random.nextInt(4) > 0 ? 97 + random.nextInt(6) : 90 + random.nextInt(40);
    }

    private int wordNumber() {
        int number = 0;
        for (int i = random.nextInt(20) == 0 ? 7 : 1 + random.nextInt(6); i > 0; i--) {
            number = number << 5 | (random.nextInt(40) == 0 ? random.nextInt(32) : 1 + random.nextInt(5));
        }
        return random.nextInt(30) == 0 ? random.nextInt() : number;
    }

    private void call(String name, Object... arguments) {
        calls++;
        if (calls > CALLS || !WRONG.isEmpty()) {
            return;
        }
        String got = answer(shop, FACE.get(name), arguments);
        String due;
        try {
            due = answer(model, Model.class.getMethod(name, FACE.get(name).getParameterTypes()), arguments);
        } catch (NoSuchMethodException e) {
            throw new IllegalStateException(e);
        }
        boolean thrown = due.startsWith("throws");
        REACHED.merge(name + (thrown ? " throws" : " answers"), 1, Integer::sum);
        if (!thrown) {
            REACHED.merge(name + " " + due, 1, Integer::sum);
        }
        if (!got.equals(due)) {
            WRONG.add("run " + run + ", call " + calls + ": " + name + List.of(arguments) + " answered " + got + ", due is " + due);
        }
    }

    private static String answer(Object object, Method method, Object[] arguments) {
        try {
            return String.valueOf(method.invoke(object, arguments));
        } catch (InvocationTargetException e) {
            return "throws " + e.getCause().getClass().getName();
        } catch (IllegalAccessException e) {
            throw new IllegalStateException(e);
        }
    }
}
