import java.io.IOException;
import java.lang.reflect.Constructor;
import java.lang.reflect.Field;
import java.lang.reflect.Method;
import java.lang.reflect.Modifier;
import java.nio.file.Files;
import java.nio.file.Path;
import java.util.Arrays;
import java.util.Set;
import java.util.TreeSet;
import java.util.regex.Matcher;
import java.util.regex.Pattern;

/** Those rules of LANGUAGE.md that can be read off the face and the text of the program. */
public final class LanguageTest {
    private static final Path SOURCE = Path.of("src/main/java/RecurrentSeries.java");
    private static final String[] FACE = {
        "BAD", "FULL", "LONG", "WRONG", "boolean forget()", "boolean give(int)", "boolean obeys(int)",
        "int clear()", "int coefficient(int, int)", "int combine(int, int, int, int)", "int count()",
        "int delay(int)", "int derivative(int)", "int differ(int, int)", "int leaf(int)", "int order(int)",
        "int pairwise(int, int)", "int product(int, int)", "int section(int, int, int)",
        "int shared(int, int)", "int spread(int, int)", "int sums(int)", "int tail(int)",
        "int term(int, long)", "new()"};
    private static final int CONSTANT = Modifier.PUBLIC | Modifier.STATIC | Modifier.FINAL;
    private static final Set<String> CONSTANTS = Set.of("int", "long", "boolean", "char", "String");
    private static final String[] FORBIDDEN = {
        "\\bthrow\\b", "\\btry\\b", "\\bcatch\\b", "\\bsynchronized\\b", "\\bassert\\b", "->", "::",
        "^package\\b", "\\bimport\\b", "Exact\\(", "\\bSystem\\.(?!arraycopy)", "\\bRandom\\b", "\\bstatic\\s*\\{",
        "\\b(float|double)\\b", "\\binstanceof\\b", "\\b(hashCode|toString|equals)\\b"};

    public static void main(String[] args) throws IOException {
        Check check = new Check("the rules of the language");
        face(check);
        classesInside(check);
        sizes(check, RecurrentSeries.class);
        for (Class<?> one : RecurrentSeries.class.getDeclaredClasses()) {
            sizes(check, one);
        }
        String code = withoutComments(Files.readString(SOURCE));
        forbiddenWords(check, code);
        namesOfClasses(check, code);
        noObjectInACall(check, code);
        lengthsOfMethods(check, code);
        check.end();
    }

    private static void face(Check check) {
        Class<?> face = RecurrentSeries.class;
        check.due("the class is public and final", face.getModifiers(), Modifier.PUBLIC | Modifier.FINAL);
        check.due("the class stands in no package", face.getPackageName().isEmpty(), true);
        Set<String> seen = new TreeSet<>();
        Set<String> privateNames = new TreeSet<>();
        for (Method method : face.getDeclaredMethods()) {
            String types = Arrays.toString(method.getParameterTypes()).replace('[', '(').replace(']', ')');
            if (Modifier.isPrivate(method.getModifiers())) {
                privateNames.add(method.getName());
            } else {
                check.due(method.getName() + " is public and not static", method.getModifiers(), Modifier.PUBLIC);
                seen.add(method.getReturnType() + " " + method.getName() + types);
            }
        }
        for (Field field : face.getDeclaredFields()) {
            boolean constant = Modifier.isStatic(field.getModifiers()) && Modifier.isFinal(field.getModifiers());
            check.due(field.getName() + " is static and not final",
                Modifier.isStatic(field.getModifiers()) && !constant, false);
            if (!Modifier.isPrivate(field.getModifiers())) {
                check.due(field.getName() + " is a public constant", field.getModifiers(), CONSTANT);
                check.due(field.getName() + " is an int", field.getType() == int.class, true);
                seen.add(field.getName());
            }
        }
        for (Constructor<?> constructor : face.getDeclaredConstructors()) {
            check.due("parameters of the constructor", constructor.getParameterCount(), 0);
            check.due("the constructor is public", constructor.getModifiers(), Modifier.PUBLIC);
            seen.add("new()");
        }
        check.due("face is " + seen, seen.equals(new TreeSet<>(Arrays.asList(FACE))), true);
        for (Method method : face.getDeclaredMethods()) {
            check.due(method.getName() + " is a private name too",
                Modifier.isPublic(method.getModifiers()) && privateNames.contains(method.getName()), false);
        }
    }

    private static void classesInside(Check check) {
        Class<?>[] inside = RecurrentSeries.class.getDeclaredClasses();
        check.due("more than eleven classes inside", inside.length > 11, false);
        for (Class<?> one : inside) {
            check.due(one.getName() + " is static", Modifier.isStatic(one.getModifiers()), true);
            for (Method method : one.getDeclaredMethods()) {
                check.due(one.getName() + "." + method.getName() + " bears a name of the face",
                    Modifier.isPrivate(method.getModifiers()) && namesOfTheFace().contains(method.getName()), false);
            }
            for (Field field : one.getDeclaredFields()) {
                boolean loose = Modifier.isStatic(field.getModifiers()) && !Modifier.isFinal(field.getModifiers());
                check.due(one.getName() + "." + field.getName() + " is static and not final", loose, false);
            }
        }
    }

    private static Set<String> namesOfTheFace() {
        Set<String> names = new TreeSet<>();
        for (Method method : RecurrentSeries.class.getMethods()) {
            names.add(method.getName());
        }
        return names;
    }

    private static void sizes(Check check, Class<?> one) {
        int fields = 0;
        for (Field field : one.getDeclaredFields()) {
            boolean constant = Modifier.isStatic(field.getModifiers());
            fields += constant ? 0 : 1;
            String type = field.getType().getSimpleName();
            check.due("type of the constant " + field.getName(), constant && !CONSTANTS.contains(type), false);
        }
        check.due(one.getName() + " has more than twenty fields", fields > 20, false);
        for (Method method : one.getDeclaredMethods()) {
            check.due(method.getName() + " has more than seven parameters", method.getParameterCount() > 7, false);
        }
    }

    private static String withoutComments(String text) {
        return text.replaceAll("(?s)/\\*.*?\\*/", "").replaceAll("//[^\n]*", "");
    }

    private static void forbiddenWords(Check check, String code) {
        for (String word : FORBIDDEN) {
            Matcher matcher = Pattern.compile(word, Pattern.MULTILINE).matcher(code);
            check.due("the text has " + word, matcher.find(), false);
        }
    }

    /** Of the library the program uses Math alone. */
    private static void namesOfClasses(Check check, String code) {
        Set<String> known = new TreeSet<>(Set.of("RecurrentSeries", "Math"));
        for (Class<?> one : RecurrentSeries.class.getDeclaredClasses()) {
            known.add(one.getSimpleName());
        }
        Matcher matcher = Pattern.compile("\\b[A-Z]\\w*[a-z]\\w*").matcher(code);
        while (matcher.find()) {
            check.due("the name " + matcher.group() + " is known", known.contains(matcher.group()), true);
        }
    }

    /** All calls of a run live in one room: rows are made in constructors and used again. */
    private static void noObjectInACall(Check check, String code) {
        for (String line : code.split("\n")) {
            boolean ofAField = line.startsWith("    private ") || line.startsWith("        private ");
            boolean ofTheList = line.equals("            list[k] = new Series();");
            check.due("an object is made in: " + line, line.contains("new ") && !ofAField && !ofTheList, false);
        }
    }

    private static void lengthsOfMethods(Check check, String code) {
        String[] lines = code.split("\n");
        for (int first = 0; first < lines.length; first++) {
            String indent = lines[first].replaceAll("\\S.*", "");
            if (!lines[first].endsWith(") {") || indent.length() > 8 || lines[first].matches(" *(for|if|while) .*")) {
                continue;
            }
            int last = first;
            while (!lines[last].equals(indent + "}")) {
                last++;
            }
            check.due(lines[first].trim() + " is longer than sixty lines", last - first > 60, false);
        }
    }
}
