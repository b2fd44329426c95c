import java.io.IOException;
import java.lang.reflect.Field;
import java.lang.reflect.Method;
import java.lang.reflect.Modifier;
import java.nio.file.Files;
import java.nio.file.Path;
import java.util.ArrayList;
import java.util.List;
import java.util.Set;
import java.util.TreeSet;
import java.util.regex.Matcher;
import java.util.regex.Pattern;

/** The rules of LANGUAGE.md, as far as they can be seen in the class and its source without reading it. */
public final class LanguageTest {
    private static final String SOURCE = "src/main/java/TravelToken.java";
    private static final int MOST_CLASSES = 12;
    private static final int MOST_FIELDS = 20;
    private static final int MOST_PARAMETERS = 7;
    private static final int MOST_LINES = 60;
    private static final Pattern REMARKS_AND_TEXTS = Pattern.compile("/\\*.*?\\*/|//[^\\n]*|\"[^\"\\n]*\"|'[^'\\n]*'",
            Pattern.DOTALL);
    private static final Pattern RULED_OUT = Pattern.compile("->|::|\\b(finally|try|catch|synchronized|assert|package|"
            + "protected|native|volatile|transient|lambda|var|getMessage|hashCode|toString|System\\.(?!arraycopy)\\w+|"
            + "Thread|Random|Object|\\w+Exact)\\b");
    private static final Pattern THROWN = Pattern.compile("throw\\b[^;]*;");

    public static void main(String[] args) throws IOException {
        List<Class<?>> classes = new ArrayList<>(List.of(TravelToken.class.getDeclaredClasses()));
        for (Class<?> inside : classes) {
            Check.due("rule 1: static: " + inside, Modifier.isStatic(inside.getModifiers()), true);
            Check.due("rule 1: seen by none: " + inside, Modifier.isPublic(inside.getModifiers())
                    || Modifier.isProtected(inside.getModifiers()), false);
        }
        classes.add(TravelToken.class);
        Check.due("rule 11: classes", classes.size() <= MOST_CLASSES, true);
        Set<String> face = namesOfTheFace();
        for (Class<?> one : classes) {
            methods(one, face);
            fields(one);
        }
        String code = REMARKS_AND_TEXTS.matcher(Files.readString(Path.of(SOURCE))).replaceAll("0");
        words(code);
        lines(code);
        Check.close();
    }

    private static Set<String> namesOfTheFace() {
        Set<String> names = new TreeSet<>();
        for (Method m : TravelToken.class.getDeclaredMethods()) {
            if (Modifier.isPublic(m.getModifiers())) {
                names.add(m.getName());
            }
        }
        return names;
    }

    private static void methods(Class<?> one, Set<String> face) {
        for (Method m : one.getDeclaredMethods()) {
            Check.due("rule 11: parameters of " + m, m.getParameterCount() <= MOST_PARAMETERS, true);
            boolean ofFace = one == TravelToken.class && Modifier.isPublic(m.getModifiers());
            Check.due("rule 1: the name of " + m, !ofFace && face.contains(m.getName()), false);
        }
    }

    private static void fields(Class<?> one) {
        int fields = 0;
        for (Field f : one.getDeclaredFields()) {
            if (Modifier.isStatic(f.getModifiers())) {
                Check.due("rule 5: final: " + f, Modifier.isFinal(f.getModifiers()), true);
            } else {
                fields++;
            }
        }
        Check.due("rule 11: fields of " + one, fields <= MOST_FIELDS, true);
    }

    private static void words(String code) {
        Matcher bad = RULED_OUT.matcher(code);
        while (bad.find()) {
            Check.due("rules 2 to 6: '" + bad.group() + "' is in the code", true, false);
        }
        Matcher thrown = THROWN.matcher(code.replace("throws NoSuchElementException", ""));
        while (thrown.find()) {
            Check.due("rule 6: " + thrown.group(), thrown.group().equals("throw new NoSuchElementException();"), true);
        }
        for (String line : code.split("\n")) {
            if (line.startsWith("import ")) {
                Check.due("rule 4: " + line, line.equals("import java.util.NoSuchElementException;"), true);
            }
        }
    }

    /** A method begins at a line that ends in ") {" at the depth of members, and ends at its brace. */
    private static void lines(String code) {
        String[] lines = code.split("\n");
        for (int i = 0; i < lines.length; i++) {
            Matcher head = Pattern.compile("( {4}| {8})\\w[\\w\\[\\] ]*\\(.*\\{").matcher(lines[i]);
            if (head.matches() && !lines[i].trim().matches("(if|for|while|switch)\\b.*")) {
                int last = i;
                while (last < lines.length - 1 && !lines[last].equals(head.group(1) + "}")) {
                    last++;
                }
                Check.due("rule 11: lines of " + lines[i].trim(), last - i + 1 <= MOST_LINES, true);
            }
        }
    }
}
