import java.io.IOException;
import java.lang.reflect.Method;
import java.lang.reflect.Modifier;
import java.net.URL;
import java.net.URLClassLoader;
import java.nio.file.Files;
import java.nio.file.Path;
import java.util.ArrayList;
import java.util.Comparator;
import java.util.List;
import java.util.regex.Matcher;
import java.util.regex.Pattern;
import java.util.stream.Stream;
import javax.tools.ToolProvider;

/** Runs the lines of README.md that show how to use the class, and compares what they answer. */
public final class ReadmeTest {
    private static final Path README = Path.of("README.md");
    private static final Pattern BLOCK = Pattern.compile("```java\n(.*?)```", Pattern.DOTALL);
    private static final Pattern ANSWERED =
        Pattern.compile("(int \\w+ = )?(.*);\\s*// (-?\\d+|true|false)(:.*)?");

    private final Check check = new Check("README.md");
    private final List<String> calls = new ArrayList<>();
    private final List<String> due = new ArrayList<>();
    private final StringBuilder program = new StringBuilder();

    public static void main(String[] args) throws IOException, ReflectiveOperationException {
        ReadmeTest test = new ReadmeTest();
        String text = Files.readString(README);
        test.tellsOfEveryCall(text);
        test.read(text);
        Path folder = Files.createTempDirectory("readme");
        test.compare(test.run(folder));
        remove(folder);
        test.check.end();
    }

    private void tellsOfEveryCall(String text) {
        for (Method method : RecurrentSeries.class.getDeclaredMethods()) {
            if (Modifier.isPublic(method.getModifiers())) {
                check.due(method.getName() + " is told of", text.contains(method.getName() + "("), true);
            }
        }
        check.due("how to run the tests is told", text.contains(".ci/run"), true);
    }

    private void read(String text) {
        Matcher block = BLOCK.matcher(text);
        while (block.find()) {
            for (String line : block.group(1).split("\n")) {
                readLine(line);
            }
        }
        check.due("there are answers to compare", calls.size() > 15, true);
    }

    private void readLine(String line) {
        Matcher answered = ANSWERED.matcher(line);
        if (!answered.matches()) {
            program.append(line).append('\n');
            return;
        }
        calls.add(answered.group(2));
        due.add(answered.group(3));
        String name = answered.group(1) == null ? "" : answered.group(1).replaceAll("int (\\w+) = ", "$1");
        program.append(name.isEmpty() ? "" : line + "\n");
        program.append("answers.add(String.valueOf(" + (name.isEmpty() ? answered.group(2) : name) + "));\n");
    }

    private List<?> run(Path folder) throws IOException, ReflectiveOperationException {
        Path source = folder.resolve("ReadmeLines.java");
        Files.writeString(source, "public final class ReadmeLines {\n"
            + "public static java.util.List<String> answers() {\n"
            + "java.util.List<String> answers = new java.util.ArrayList<>();\n" + program + "return answers;\n}\n}\n");
        int failed = ToolProvider.getSystemJavaCompiler().run(null, null, null,
            "-cp", System.getProperty("java.class.path"), "-d", folder.toString(), source.toString());
        check.due("the lines compile", failed, 0);
        if (failed != 0) {
            return List.of();
        }
        try (URLClassLoader loader = new URLClassLoader(new URL[] {folder.toUri().toURL()})) {
            return (List<?>) loader.loadClass("ReadmeLines").getMethod("answers").invoke(null);
        }
    }

    private void compare(List<?> answers) {
        check.due("how many answered", answers.size(), calls.size());
        for (int i = 0; i < answers.size(); i++) {
            check.due(calls.get(i) + " answers " + answers.get(i) + " as README.md tells, " + due.get(i),
                answers.get(i).equals(due.get(i)), true);
        }
    }

    private static void remove(Path folder) throws IOException {
        try (Stream<Path> files = Files.walk(folder)) {
            for (Path file : files.sorted(Comparator.reverseOrder()).toList()) {
                Files.delete(file);
            }
        }
    }
}
