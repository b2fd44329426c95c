import java.io.IOException;
import java.lang.reflect.InvocationTargetException;
import java.lang.reflect.Method;
import java.nio.file.Files;
import java.nio.file.Path;
import java.util.regex.Matcher;
import java.util.regex.Pattern;

/** The examples of README.md answer what README.md says: the number at the beginning of the remark. */
public final class ReadmeTest {
    private static final Pattern CALL = Pattern.compile("x\\.(\\w+)\\(([-0-9, ]*)\\);\\s*// (-?\\d+):.*");
    private static final Pattern READ = Pattern.compile("read\\(x, \"(.*)\"\\);\\s*// (-?\\d+):.*");

    public static void main(String[] args) throws IOException, ReflectiveOperationException {
        TravelToken x = null;
        boolean inside = false;
        int examples = 0;
        for (String line : Files.readAllLines(Path.of("README.md"))) {
            if (line.startsWith("```")) {
                inside = line.equals("```java");
            } else if (inside && line.equals("TravelToken x = new TravelToken();")) {
                x = new TravelToken();
            } else if (inside && line.contains(" // ")) {
                example(x, line);
                examples++;
            }
        }
        Check.due("README.md has examples", examples > 20, true);
        Check.close();
    }

    private static void example(TravelToken x, String line) throws ReflectiveOperationException {
        Matcher read = READ.matcher(line);
        Matcher call = CALL.matcher(line);
        if (read.matches()) {
            Check.due("README: " + line, Check.read(x, read.group(1)), Integer.parseInt(read.group(2)));
        } else if (call.matches()) {
            Check.due("README: " + line, answer(x, call.group(1), call.group(2)), Integer.parseInt(call.group(3)));
        } else {
            Check.due("README: can be read: " + line, false, true);
        }
    }

    private static int answer(TravelToken x, String name, String told) throws ReflectiveOperationException {
        String[] numbers = told.isBlank() ? new String[0] : told.split(", ");
        Class<?>[] types = new Class<?>[numbers.length];
        Object[] values = new Object[numbers.length];
        for (int i = 0; i < numbers.length; i++) {
            types[i] = int.class;
            values[i] = Integer.valueOf(numbers[i]);
        }
        Method method = TravelToken.class.getMethod(name, types);
        try {
            return (Integer) method.invoke(x, values);
        } catch (InvocationTargetException thrown) {
            return Check.THROWN;
        }
    }
}
