import java.io.File;
import java.io.IOException;
import java.net.URL;
import java.net.URLClassLoader;
import java.nio.file.Files;
import java.nio.file.Path;
import java.util.function.BiConsumer;
import java.util.regex.Matcher;
import java.util.regex.Pattern;
import java.util.stream.Stream;
import javax.tools.JavaCompiler;
import javax.tools.ToolProvider;

/** What README.md shows must compile, and must answer what stands behind it there. */
public final class ReadmeTest {
    private static final Path README = Path.of("README.md");
    private static final Path TESTS = Path.of("src/test/java");
    // a statement of the README with its answer: "call;   // = answer" and perhaps more words behind a colon
    private static final Pattern ANSWERED = Pattern.compile("^(?:\\w+ (\\w+) = )?([^;=]+);\\s*// = ([^:]+?)(:.*)?$");

    public static void main(String[] args) throws IOException, ReflectiveOperationException {
        String readme = Files.readString(README);
        namesEachTest(readme);
        runExamples(readme);
        Check.end("ReadmeTest");
    }

    private static void namesEachTest(String readme) throws IOException {
        try (Stream<Path> files = Files.list(TESTS)) {
            files.map(file -> file.getFileName().toString()).filter(name -> name.endsWith("Test.java")).forEach(name ->
                    Check.same("README.md names " + name, readme.contains("`" + name.replace(".java", "") + "`"), true));
        }
    }

    private static void runExamples(String readme) throws IOException, ReflectiveOperationException {
        Path folder = Files.createTempDirectory("readme");
        Path source = folder.resolve("Example.java");
        Files.writeString(source, example(readme));
        JavaCompiler compiler = ToolProvider.getSystemJavaCompiler();
        String classes = System.getProperty("java.class.path");
        int code = compiler.run(null, null, null, "-cp", classes, "-d", folder.toString(), source.toString());
        Check.same("README.md's examples compile", code, 0);
        if (code == 0) {
            try (URLClassLoader loader = new URLClassLoader(new URL[] {folder.toUri().toURL()}, ReadmeTest.class.getClassLoader())) {
                BiConsumer<String, int[]> compare = (what, gotAndDue) -> Check.same(what, gotAndDue[0], gotAndDue[1]);
                loader.loadClass("Example").getMethod("run", BiConsumer.class).invoke(null, compare);
            }
        }
        for (File file : folder.toFile().listFiles()) {
            Files.delete(file.toPath());
        }
        Files.delete(folder);
    }

    /** All examples in one method; each answer that the README tells is compared. */
    private static String example(String readme) {
        StringBuilder code = new StringBuilder("public final class Example {\n");
        code.append("public static void run(java.util.function.BiConsumer<String, int[]> compare) {\n");
        Matcher block = Pattern.compile("```java\n(.*?)```", Pattern.DOTALL).matcher(readme);
        int answers = 0;
        while (block.find()) {
            for (String line : block.group(1).split("\n")) {
                Matcher answered = ANSWERED.matcher(line.trim());
                if (answered.matches()) {
                    answers++;
                    code.append(compared(answered));
                } else {
                    code.append(line).append('\n');
                }
            }
        }
        Check.same("README.md tells answers", answers >= 10, true);
        return code.append("}\n}\n").toString();
    }

    private static String compared(Matcher answered) {
        String name = answered.group(1);
        String call = answered.group(2);
        String due = answered.group(3);
        String what = "\"README.md: " + call.replace("\"", "\\\"") + "\"";
        String compare = "compare.accept(" + what + ", new int[] {" + (name == null ? call : name) + ", " + due + "});\n";
        return name == null ? compare : "int " + name + " = " + call + ";\n" + compare;
    }
}
