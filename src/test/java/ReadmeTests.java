import java.io.IOException;
import java.io.StringWriter;
import java.lang.reflect.InvocationTargetException;
import java.lang.reflect.Method;
import java.lang.reflect.Modifier;
import java.net.URL;
import java.net.URLClassLoader;
import java.nio.file.Files;
import java.nio.file.Path;
import java.util.ArrayList;
import java.util.Comparator;
import java.util.List;
import java.util.function.Function;
import java.util.regex.Matcher;
import java.util.regex.Pattern;
import java.util.stream.Collectors;
import java.util.stream.Stream;
import javax.tools.JavaCompiler;
import javax.tools.StandardJavaFileManager;
import javax.tools.ToolProvider;

/**
 * Runs what README.md shows: its Java lines, in their order, are made a program, in which each call
 * with an answer behind it writes down what it answered and what the page says.
 */
public final class ReadmeTests extends Checks {

    private static final Path PAGE = Path.of("README.md");
    private static final Path TESTS = Path.of("src/test/java");

    /** A call, the answer behind it, and perhaps a row. */
    private static final Pattern SHOWN =
        Pattern.compile("(x\\.(\\w+)\\([^;]*\\)); +// ([^;]+?)(?:;.*?)??(?:; the row is ([a-h\\[\\]0-9]+))?");

    private static final Pattern CALL = Pattern.compile("\\bx\\.(\\w+)\\(");

    public static void main(String[] args) throws Exception {
        List<String> page = Files.readAllLines(PAGE);
        List<String> code = new ArrayList<>();
        List<String> words = new ArrayList<>();
        split(page, code, words);
        eachCallHasAnAnswer(code, words);
        eachCallOfTheFaceIsShown(code);
        eachTestIsNamed(page);
        run(code);
        finish();
    }

    /** The Java lines, and all other ones. */
    private static void split(List<String> page, List<String> code, List<String> words) {
        boolean isCode = false;
        for (String line : page) {
            if (line.startsWith("```")) {
                isCode = line.equals("```java");
            } else {
                (isCode ? code : words).add(line);
            }
        }
    }

    private static void eachCallHasAnAnswer(List<String> code, List<String> words) {
        tested = "calls and answers";
        for (String line : words) {
            due("a call among the words '" + line + "'", CALL.matcher(line).find(), false);
        }
        int answers = 0;
        for (String line : code) {
            if (line.contains("//")) {
                answers++;
                Matcher shown = SHOWN.matcher(line);
                boolean isShown = shown.matches();
                due("'" + line + "' is a call with an answer", isShown, true);
                due("the row of '" + line + "'", isShown && shown.group(4) != null, line.contains("the row is"));
            } else if (CALL.matcher(line).find()) {
                due("a call without an answer", line.trim(), "x.append(c);");
            }
        }
        due("many calls with answers: " + answers, answers >= 25, true);
    }

    private static void eachCallOfTheFaceIsShown(List<String> code) {
        tested = "the public face";
        String all = String.join("\n", code);
        for (Method method : PairNames.class.getDeclaredMethods()) {
            if (Modifier.isPublic(method.getModifiers())) {
                due(method.getName() + " is shown", all.contains("x." + method.getName() + "("), true);
            }
        }
    }

    private static void eachTestIsNamed(List<String> page) throws IOException {
        tested = "the tests";
        try (Stream<Path> files = Files.list(TESTS)) {
            List<String> there = files.map(file -> file.getFileName().toString().replace(".java", "")).sorted()
                .collect(Collectors.toList());
            List<String> named = page.stream().filter(line -> line.matches("- `\\w+Tests`: .*"))
                .map(line -> line.replaceAll("- `(\\w+)`.*", "$1")).sorted().collect(Collectors.toList());
            due("tests with a line of their own", named, there);
        }
    }

    // ---- the program that is made of the page

    private static void run(List<String> code) throws Exception {
        Path folder = Files.createTempDirectory("readme");
        try {
            compile(folder, program(code));
            compare(folder);
        } finally {
            remove(folder);
        }
    }

    private static String program(List<String> code) {
        StringBuilder text = new StringBuilder("public final class Shown {\n");
        text.append("static final int NONE = PairNames.NONE;\n");
        text.append("public static void run(java.util.List<String> told, ");
        text.append("java.util.function.Function<PairNames, String> row) {\n");
        for (String line : code) {
            Matcher shown = SHOWN.matcher(line);
            text.append(shown.matches() ? noted(shown) : line + "\n");
        }
        return text.append("}\n}\n").toString();
    }

    /** Each call writes three texts: itself, what it answered, what the page says; a row likewise. */
    private static String noted(Matcher shown) {
        String call = shown.group(1);
        String answer = shown.group(3);
        StringBuilder text = new StringBuilder();
        text.append("told.add(\"").append(call).append("\");\n");
        text.append("try { told.add(String.valueOf(").append(call).append(")); } ");
        text.append("catch (RuntimeException e) { told.add(\"throws \" + e.getClass().getSimpleName()); }\n");
        boolean isThrown = answer.startsWith("throws ");
        text.append("told.add(").append(isThrown ? "\"" + answer + "\"" : "String.valueOf(" + answer + ")").append(");\n");
        if (shown.group(4) != null) {
            text.append("told.add(\"the row behind ").append(call).append("\");\n");
            text.append("told.add(row.apply(x));\ntold.add(\"").append(shown.group(4)).append("\");\n");
        }
        return text.toString();
    }

    private static void compile(Path folder, String program) throws IOException {
        tested = "the program made of README.md";
        Path source = Files.writeString(folder.resolve("Shown.java"), program);
        JavaCompiler compiler = ToolProvider.getSystemJavaCompiler();
        StringWriter faults = new StringWriter();
        try (StandardJavaFileManager files = compiler.getStandardFileManager(null, null, null)) {
            List<String> options = List.of("-proc:none", "-d", folder.toString(), "-cp", System.getProperty("java.class.path"));
            boolean isDone = compiler.getTask(faults, files, null, options, null, files.getJavaFileObjects(source)).call();
            due("faults: " + faults + " it compiles", isDone, true);
        }
    }

    private static void compare(Path folder) throws Exception {
        tested = "README.md";
        List<String> told = new ArrayList<>();
        Function<PairNames, String> row = Checks::row;
        try (URLClassLoader loader = new URLClassLoader(new URL[] {folder.toUri().toURL()})) {
            loader.loadClass("Shown").getMethod("run", List.class, Function.class).invoke(null, told, row);
        } catch (ClassNotFoundException | InvocationTargetException e) {
            due("the program", e.toString(), "run to its end");
        }
        due("three texts for each answer", told.size() % 3, 0);
        for (int i = 0; i + 2 < told.size(); i += 3) {
            due(told.get(i), told.get(i + 1), told.get(i + 2));
        }
    }

    private static void remove(Path folder) throws IOException {
        try (Stream<Path> files = Files.walk(folder)) {
            for (Path file : files.sorted(Comparator.reverseOrder()).collect(Collectors.toList())) {
                Files.delete(file);
            }
        }
    }
}
