import java.io.IOException;
import java.lang.reflect.Method;
import java.lang.reflect.Modifier;
import java.net.URL;
import java.net.URLClassLoader;
import java.nio.file.Files;
import java.nio.file.Path;
import java.util.ArrayList;
import java.util.List;
import java.util.regex.Matcher;
import java.util.regex.Pattern;
import java.util.stream.Stream;
import javax.tools.ToolProvider;

/** What README.md shows is so: its examples are compiled and run, its tables compared; run from the project's folder. */
public final class ReadmeTest {
    private static final Due DUE = new Due();
    private static final Pattern BLOCK = Pattern.compile("(?s)```java\n(.*?)```");
    /** A call, whose answer may be kept in a variable, and behind // a number or a constant, then words if there is a comma. */
    private static final Pattern SHOWN = Pattern.compile("(?:int (\\w+) = )?((?:x\\.)?\\w+\\(.*\\)); +// (-?\\d+|[A-Z]+)(?:, .*)?");

    public static void main(String[] args) throws IOException, ReflectiveOperationException {
        String page = Files.readString(Path.of("README.md"));
        examples(page);
        constants(page);
        calls(page);
        tests(page);
        DUE.end();
    }

    private static void examples(String page) throws IOException, ReflectiveOperationException {
        Path folder = Files.createTempDirectory("readme");
        Path source = folder.resolve("Shown.java");
        Files.writeString(source, sourceOf(page));
        String classPath = System.getProperty("java.class.path");
        int compiled = ToolProvider.getSystemJavaCompiler().run(null, null, null,
            "-d", folder.toString(), "-cp", classPath, source.toString());
        DUE.due("the examples compile", compiled, 0);
        if (compiled == 0) {
            List<Object[]> answers = new ArrayList<>();
            try (URLClassLoader loader = new URLClassLoader(new URL[] {folder.toUri().toURL()})) {
                loader.loadClass("Shown").getMethod("show", List.class).invoke(null, answers);
            }
            for (Object[] answer : answers) {
                DUE.due("README.md: " + answer[0], (Integer) answer[1], (Integer) answer[2]);
            }
            DUE.holds(answers.size() + " answers are shown", answers.size() > 80);
        }
        try (Stream<Path> made = Files.list(folder)) {
            for (Path file : made.toList()) {
                Files.delete(file);
            }
        }
        Files.delete(folder);
    }

    /** The blocks as one method, in their order; a block that begins with static stands beside it. */
    private static String sourceOf(String page) {
        StringBuilder beside = new StringBuilder();
        StringBuilder inside = new StringBuilder();
        Matcher block = BLOCK.matcher(page);
        while (block.find()) {
            if (block.group(1).startsWith("static ")) {
                beside.append(block.group(1));
            } else {
                block.group(1).lines().forEach(line -> inside.append(statement(line)).append('\n'));
            }
        }
        return "public final class Shown {\n" + beside
            + "static void due(java.util.List<Object[]> answers, String call, int got, int want) {\n"
            + "answers.add(new Object[] {call, got, want});\n}\n"
            + "public static void show(java.util.List<Object[]> answers) {\n" + inside + "}\n}\n";
    }

    private static String statement(String line) {
        Matcher shown = SHOWN.matcher(line);
        if (!shown.matches()) {
            DUE.holds("told with its answer: " + line, !line.contains("x.") && !line.contains("tell("));
            return line;
        }
        String want = shown.group(3).matches("[A-Z]+") ? "PowerBonds." + shown.group(3) : shown.group(3);
        String kept = shown.group(1) == null ? "" : "int " + shown.group(1) + " = " + shown.group(2) + "; ";
        String got = shown.group(1) == null ? shown.group(2) : shown.group(1);
        return kept + "due(answers, \"" + shown.group(2).replace("\"", "\\\"") + "\", " + got + ", " + want + ");";
    }

    private static void constants(String page) throws IllegalAccessException {
        for (java.lang.reflect.Field field : PowerBonds.class.getFields()) {
            String row = "| `" + field.getName() + "` | " + field.getInt(null) + " |";
            DUE.holds(row + " is told", page.contains("\n" + row));
        }
    }

    private static void calls(String page) {
        for (Method method : PowerBonds.class.getDeclaredMethods()) {
            if (Modifier.isPublic(method.getModifiers())) {
                String name = method.getName();
                String parameters = "\\w+, ".repeat(method.getParameterCount()).replaceAll(", $", "");
                DUE.holds(name + " has a row", Pattern.compile("\n\\| `" + name + "\\(" + parameters + "\\)` \\|").matcher(page).find());
                DUE.holds(name + " is shown", Pattern.compile("\\bx\\." + name + "\\(").matcher(page).find());
            }
        }
    }

    private static void tests(String page) throws IOException {
        try (Stream<Path> files = Files.list(Path.of("src/test/java"))) {
            for (Path file : files.toList()) {
                String name = file.getFileName().toString().replace(".java", "");
                DUE.holds(name + " is told", !name.endsWith("Test") || page.contains("`" + name + "`"));
            }
        }
        Matcher named = Pattern.compile("`(\\w+Test)`").matcher(page);
        while (named.find()) {
            DUE.holds(named.group(1) + " is there", Files.exists(Path.of("src/test/java/" + named.group(1) + ".java")));
        }
        DUE.holds(".ci/run is there and can be run", Files.isExecutable(Path.of(".ci/run")));
    }
}
