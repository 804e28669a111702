import java.io.IOException;
import java.lang.reflect.Method;
import java.lang.reflect.Modifier;
import java.net.URL;
import java.net.URLClassLoader;
import java.nio.file.Files;
import java.nio.file.Path;
import java.util.ArrayList;
import java.util.HashMap;
import java.util.HashSet;
import java.util.List;
import java.util.Map;
import java.util.Set;
import java.util.function.BiConsumer;
import java.util.regex.Matcher;
import java.util.regex.Pattern;
import java.util.stream.Stream;

/**
 * Every example of README.md answers as it says there. The blocks of Java in it are compiled as they stand: one that begins
 * with "static" is helpers, each other one an example, whose lines are calls with the answer behind them.
 */
public final class ReadmeTest {
    private static final Check check = new Check();
    private static final Pattern CALL = Pattern.compile("(\\w+(?:\\.\\w+)?\\(.*\\));\\s+// (-?\\w+)(?::.*)?");
    private static final String NEW = "HogMortgage x = new HogMortgage();";

    private final StringBuilder source = new StringBuilder("public final class ReadmeExamples {\n");
    private final Map<Integer, String> calls = new HashMap<>();
    private final Map<Integer, Integer> dues = new HashMap<>();
    private final Set<String> answersSeen = new HashSet<>();
    private int examples = 0;

    public static void main(String[] args) throws IOException, InterruptedException, ReflectiveOperationException {
        List<String> lines = Files.readAllLines(Path.of("README.md"));
        ReadmeTest test = new ReadmeTest();
        test.take(lines);
        test.run();
        test.allIsShown(String.join("\n", lines));
        System.out.print(test.examples + " examples, ");
        check.end();
    }

    private void take(List<String> lines) {
        for (int k = 0; k < lines.size(); k++) {
            if (!lines.get(k).equals("```java")) {
                continue;
            }
            int end = k + 1;
            while (!lines.get(end).equals("```")) {
                end++;
            }
            if (lines.get(k + 1).startsWith("static ")) {
                source.append(String.join("\n", lines.subList(k + 1, end))).append('\n');
            } else {
                example(lines, k + 1, end);
            }
            k = end;
        }
    }

    private void example(List<String> lines, int from, int to) {
        check.same("line " + (from + 1), lines.get(from), NEW);
        source.append("static void example").append(examples).append("(java.util.function.BiConsumer<Integer, Integer> told) {\n");
        source.append(NEW).append('\n');
        for (int k = from + 1; k < to; k++) {
            Matcher m = CALL.matcher(lines.get(k));
            if (!m.matches()) {
                check.same("line " + (k + 1), lines.get(k), "a call and its answer");
                continue;
            }
            source.append("told.accept(").append(k + 1).append(", ").append(m.group(1)).append(");\n");
            calls.put(k + 1, m.group(1));
            dues.put(k + 1, number(m.group(2)));
            answersSeen.add(m.group(2));
        }
        source.append("}\n");
        examples++;
    }

    private static int number(String told) {
        try {
            return HogMortgage.class.getField(told).getInt(null);
        } catch (ReflectiveOperationException e) {
            return told.startsWith("0b") ? Integer.parseInt(told.substring(2), 2) : Integer.parseInt(told);
        }
    }

    private void run() throws IOException, InterruptedException, ReflectiveOperationException {
        source.append("public static void run(java.util.function.BiConsumer<Integer, Integer> told) {\n");
        for (int k = 0; k < examples; k++) {
            source.append("example").append(k).append("(told);\n");
        }
        source.append("}\n}\n");
        Path folder = Files.createTempDirectory("readme");
        try {
            Path file = folder.resolve("ReadmeExamples.java");
            Files.writeString(file, source);
            ProcessBuilder javac = new ProcessBuilder("javac", "-encoding", "UTF-8", "-cp",
                    System.getProperty("java.class.path"), "-d", folder.toString(), file.toString());
            int failed = javac.inheritIO().start().waitFor();
            check.due("the examples compile", failed, 0);
            if (failed == 0) {
                runIn(folder);
            }
        } finally {
            delete(folder);
        }
    }

    private void runIn(Path folder) throws IOException, ReflectiveOperationException {
        BiConsumer<Integer, Integer> told = (line, got) -> {
            check.due("README.md, line " + line + ": " + calls.get(line), got, dues.remove(line));
        };
        try (URLClassLoader loader = new URLClassLoader(new URL[] {folder.toUri().toURL()})) {
            loader.loadClass("ReadmeExamples").getMethod("run", BiConsumer.class).invoke(null, told);
        }
        check.same("calls that were not run", dues.toString(), "{}");
    }

    private static void delete(Path folder) throws IOException {
        List<Path> files = new ArrayList<>();
        try (Stream<Path> found = Files.list(folder)) {
            found.forEach(files::add);
        }
        for (Path file : files) {
            Files.delete(file);
        }
        Files.delete(folder);
    }

    /** Each call has a row of its own, and an example (type in a helper alone); each refusal is an answer somewhere. */
    private void allIsShown(String text) {
        for (Method m : HogMortgage.class.getDeclaredMethods()) {
            if (!Modifier.isPublic(m.getModifiers())) {
                continue;
            }
            int parameters = m.getParameterCount();
            String row = "(?s).*\n\\| `" + m.getName() + "\\(" + (parameters == 0 ? "" : "\\w+(, \\w+){" + (parameters - 1) + "}")
                    + "\\)` \\|.*";
            check.due("a row of " + m.getName(), text.matches(row) ? 1 : 0, 1);
            boolean called = m.getName().equals("type") || calls.values().stream().anyMatch(c -> c.startsWith("x." + m.getName() + "("));
            check.due("an example of " + m.getName(), called ? 1 : 0, 1);
        }
        for (String refusal : new String[] {"BAD", "NOT", "FULL", "NONE", "NULL", "CAST", "INDEX", "SIZE"}) {
            check.due("an example of " + refusal, answersSeen.contains(refusal) ? 1 : 0, 1);
        }
    }
}
