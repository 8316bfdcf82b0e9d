import java.io.IOException;
import java.lang.reflect.Constructor;
import java.lang.reflect.Field;
import java.lang.reflect.Method;
import java.lang.reflect.Modifier;
import java.nio.file.Files;
import java.nio.file.Path;
import java.util.Arrays;
import java.util.Set;
import java.util.TreeSet;
import java.util.regex.Matcher;
import java.util.regex.Pattern;
import java.util.stream.Collectors;

/** The face of the class, as DOC.md lists it, and the rules of LANGUAGE.md that a look at the source can check. */
public final class FaceTest {
    private static final Path SOURCE = Path.of("src/main/java/ShopCross.java");
    private static final Path DOCUMENT = Path.of("../shared/DOC.md");

    public static void main(String[] args) throws IOException, IllegalAccessException {
        constants();
        members();
        methodsOfTheDocument(Files.readString(DOCUMENT));
        String source = Files.readString(SOURCE);
        forbiddenWords(source);
        copiedArrays(source);
        sizes(source);
        room();
        Check.end("FaceTest");
    }

    private static void constants() {
        Check.same("NONE", ShopCross.NONE, -1);
        Check.same("OPEN", ShopCross.OPEN, 0);
        Check.same("SOLVED", ShopCross.SOLVED, 1);
        Check.same("STUCK", ShopCross.STUCK, 2);
        Check.same("HOPELESS", ShopCross.HOPELESS, 3);
    }

    private static void members() {
        Check.same("public and final", ShopCross.class.getModifiers(), Modifier.PUBLIC | Modifier.FINAL);
        Set<String> fields = new TreeSet<>();
        for (Field field : ShopCross.class.getDeclaredFields()) {
            if (!Modifier.isPrivate(field.getModifiers())) {
                fields.add(field.getName());
                Check.same(field.getName(), field.getModifiers(), Modifier.PUBLIC | Modifier.STATIC | Modifier.FINAL);
            }
            if (Modifier.isStatic(field.getModifiers())) {
                Check.same(field.getName() + " is final", Modifier.isFinal(field.getModifiers()), true);
            }
        }
        Check.same("fields", fields.toString(), "[HOPELESS, NONE, OPEN, SOLVED, STUCK]");
        Constructor<?>[] constructors = ShopCross.class.getDeclaredConstructors();
        Check.same("constructors", constructors.length, 1);
        Check.same("constructor", constructors[0].toString(), "public ShopCross()");
        Set<String> names = new TreeSet<>();
        for (Method method : ShopCross.class.getDeclaredMethods()) {
            Check.same(method + " is overloaded", names.add(method.getName()), true);
            Check.same(method + " is neither public nor private", Modifier.isPublic(method.getModifiers())
                    || Modifier.isPrivate(method.getModifiers()), true);
        }
        for (Class<?> inside : ShopCross.class.getDeclaredClasses()) {
            Check.same(inside + " is static", Modifier.isStatic(inside.getModifiers()), true);
            Check.same(inside + " is private", Modifier.isPrivate(inside.getModifiers()), true);
        }
        for (Class<?> inside : ShopCross.class.getDeclaredClasses()) {
            for (Method method : inside.getDeclaredMethods()) {
                Check.same(method + " bears the name of a public method", names.contains(method.getName()), false);
            }
        }
        Check.same("at most twelve classes", ShopCross.class.getDeclaredClasses().length < 12, true);
    }

    private static void methodsOfTheDocument(String document) {
        String face = document.substring(document.indexOf("```java"), document.indexOf("## Terms"));
        Set<String> due = new TreeSet<>();
        Matcher line = Pattern.compile("public (\\w+ \\w+)\\(([^)]*)\\)( throws [\\w, ]+)?;").matcher(face);
        while (line.find()) {
            String types = line.group(2).replaceAll(" \\w+(,|$)", "$1");
            due.add(line.group(1) + "(" + types + ")" + (line.group(3) == null ? "" : line.group(3)));
        }
        Set<String> got = new TreeSet<>();
        for (Method method : ShopCross.class.getDeclaredMethods()) {
            if (Modifier.isPublic(method.getModifiers())) {
                String types = Arrays.stream(method.getParameterTypes()).map(Class::getSimpleName).collect(Collectors.joining(", "));
                String thrown = Arrays.stream(method.getExceptionTypes()).map(Class::getSimpleName).collect(Collectors.joining(", "));
                got.add(method.getReturnType().getSimpleName() + " " + method.getName() + "(" + types + ")"
                        + (thrown.isEmpty() ? "" : " throws " + thrown));
            }
        }
        Check.same("methods", got.toString(), due.toString());
        Check.same("methods", got.size(), 61);
    }

    private static void forbiddenWords(String source) {
        String[] forbidden = {"\\bpackage\\b", "\\bcatch\\b", "\\btry\\b", "\\bfinally\\b", "->", "::", "Exact\\(", "\\bsynchronized\\b",
            "\\bassert\\b", "\\binstanceof\\b", "\\bprotected\\b", "Math\\.random", "System\\.(?!arraycopy)", "\\bThread\\b",
            "\\bequals\\(", "hashCode", "toString", "NaN", "import (?!java\\.util\\.NoSuchElementException;)", "[^\\x00-\\x7f]",
            "\" \\+", "\\+ \"", "static \\{", "\\bObject\\b"};
        for (String word : forbidden) {
            Check.same("times of " + word, Pattern.compile(word).matcher(source).results().count(), 0);
        }
    }

    /** Rule 4 names arrays of numbers: no array of booleans is copied by the library. */
    private static void copiedArrays(String source) {
        Matcher field = Pattern.compile("boolean\\[\\] (\\w+)").matcher(source);
        int found = 0;
        while (field.find()) {
            found++;
            Pattern copied = Pattern.compile("arraycopy\\([^;]*\\b" + field.group(1) + "\\b");
            Check.same("copies of " + field.group(1), copied.matcher(source).results().count(), 0);
        }
        Check.same("arrays of booleans were found", found > 0, true);
    }

    /** A method begins at a line that ends with "{" after its parameters, and ends at the "}" with the same indent. */
    private static void sizes(String source) {
        String[] lines = source.split("\n");
        Pattern head = Pattern.compile("^( +)(?:public |private |static |final )*\\w+(?:\\[\\])? ?\\w*\\(([^()]*)\\)[\\w, ]* \\{$");
        int methods = 0;
        for (int i = 0; i < lines.length; i++) {
            Matcher begin = head.matcher(lines[i]);
            if (begin.find() && !lines[i].matches("\\s*(if|for|while|switch|else).*")) {
                int end = i;
                while (!lines[end].equals(begin.group(1) + "}")) {
                    end++;
                }
                methods++;
                Check.same("at most sixty lines: " + lines[i], end - i < 60, true);
                Check.same("at most seven parameters: " + lines[i], begin.group(2).split(",").length <= 7, true);
            }
            Check.same("line " + (i + 1) + " is not too long", lines[i].length() <= 120, true);
        }
        Check.same("methods were found", methods > 100, true);
    }

    /** 512 of the dearest calls must not make much: the room has 7.3 million fields and elements. */
    private static void room() {
        com.sun.management.ThreadMXBean threads =
                (com.sun.management.ThreadMXBean) java.lang.management.ManagementFactory.getThreadMXBean();
        StringBuilder text = new StringBuilder("grid 6 6;");
        for (int i = 0; i < 30; i++) {
            text.append("word ");
            for (int j = 0; j < 6; j++) {
                text.append((char) ('a' + (i * 7 + j * j * (i + 1)) % 3 + i / 15));
            }
            text.setLength(text.length() - 1);
            text.append((char) ('a' + i % 26)).append(';');
        }
        long before = threads.getThreadAllocatedBytes(Thread.currentThread().getId());
        ShopCross shop = Check.loaded(text.toString());
        for (int i = 0; i < 120; i++) {
            shop.stepsToEnd();
            shop.stateAtEnd();
            shop.solve(200);
            shop.save(i % 2);
        }
        long used = threads.getThreadAllocatedBytes(Thread.currentThread().getId()) - before;
        Check.same("bytes used are few: " + used, used < 1_000_000, true);
    }
}
