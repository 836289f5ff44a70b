import java.io.IOException;
import java.lang.reflect.Constructor;
import java.lang.reflect.Field;
import java.lang.reflect.Method;
import java.lang.reflect.Modifier;
import java.nio.file.Files;
import java.nio.file.Path;
import java.util.Arrays;
import java.util.Set;
import java.util.TreeSet;
import java.util.regex.Matcher;
import java.util.regex.Pattern;

/** Those rules of LANGUAGE.md that can be read off the face and the text of the program. */
public final class LanguageTest {
    private static final Path SOURCE = Path.of("src/main/java/RecurrentSeries.java");
    private static final String[] FACE = {
        "BAD", "FULL", "LONG", "WRONG", "boolean forget()", "boolean give(int)", "boolean obeys(int)",
        "int clear()", "int coefficient(int, int)", "int combine(int, int, int, int)", "int count()",
        "int delay(int)", "int derivative(int)", "int differ(int, int)", "int leaf(int)", "int order(int)",
        "int pairwise(int, int)", "int product(int, int)", "int section(int, int, int)",
        "int shared(int, int)", "int spread(int, int)", "int sums(int)", "int tail(int)",
        "int term(int, long)", "new()"};
    private static final String[] FORBIDDEN = {
        "\\bthrow\\b", "\\btry\\b", "\\bcatch\\b", "\\bsynchronized\\b", "\\bassert\\b", "->", "::",
        "^package\\b", "\\bimport\\b", "Exact\\(", "\\bSystem\\.(?!arraycopy)", "\\bRandom\\b", "\\bstatic\\s*\\{"};

    public static void main(String[] args) throws IOException {
        Check check = new Check("the rules of the language");
        face(check);
        classesInside(check);
        forbiddenWords(check);
        check.end();
    }

    private static void face(Check check) {
        Class<?> face = RecurrentSeries.class;
        check.due("final", Modifier.isFinal(face.getModifiers()), true);
        Set<String> seen = new TreeSet<>();
        Set<String> privateNames = new TreeSet<>();
        for (Method method : face.getDeclaredMethods()) {
            String types = Arrays.toString(method.getParameterTypes()).replace('[', '(').replace(']', ')');
            if (Modifier.isPrivate(method.getModifiers())) {
                privateNames.add(method.getName());
            } else {
                seen.add(method.getReturnType() + " " + method.getName() + types);
            }
        }
        for (Field field : face.getDeclaredFields()) {
            boolean constant = Modifier.isStatic(field.getModifiers()) && Modifier.isFinal(field.getModifiers());
            check.due(field.getName() + " is static and not final",
                Modifier.isStatic(field.getModifiers()) && !constant, false);
            if (!Modifier.isPrivate(field.getModifiers())) {
                seen.add(field.getName());
            }
        }
        for (Constructor<?> constructor : face.getDeclaredConstructors()) {
            check.due("parameters of the constructor", constructor.getParameterCount(), 0);
            seen.add("new()");
        }
        check.due("face is " + seen, seen.equals(new TreeSet<>(Arrays.asList(FACE))), true);
        for (Method method : face.getDeclaredMethods()) {
            check.due(method.getName() + " is a private name too",
                Modifier.isPublic(method.getModifiers()) && privateNames.contains(method.getName()), false);
        }
    }

    private static void classesInside(Check check) {
        Class<?>[] inside = RecurrentSeries.class.getDeclaredClasses();
        check.due("more than eleven classes inside", inside.length > 11, false);
        for (Class<?> one : inside) {
            check.due(one.getName() + " is static", Modifier.isStatic(one.getModifiers()), true);
            for (Field field : one.getDeclaredFields()) {
                boolean loose = Modifier.isStatic(field.getModifiers()) && !Modifier.isFinal(field.getModifiers());
                check.due(one.getName() + "." + field.getName() + " is static and not final", loose, false);
            }
        }
    }

    private static void forbiddenWords(Check check) throws IOException {
        String text = Files.readString(SOURCE);
        for (String word : FORBIDDEN) {
            Matcher matcher = Pattern.compile(word, Pattern.MULTILINE).matcher(text);
            check.due("the text has " + word, matcher.find(), false);
        }
    }
}
