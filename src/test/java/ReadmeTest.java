import java.io.IOException;
import java.lang.reflect.Method;
import java.nio.file.Files;
import java.nio.file.Path;
import java.util.List;
import java.util.regex.Matcher;
import java.util.regex.Pattern;

/** Makes the calls that README.md shows: each is to answer what stands behind it. Run where README.md is. */
public final class ReadmeTest {
    private static final String NEW = "TokenHeart heart = new TokenHeart();";
    private static final Pattern CALL = Pattern.compile("heart\\.(\\w+)\\(([^)]*)\\);\\s+// (-?\\d+)(: .*)?");
    private static final Pattern CONSTANT = Pattern.compile("`([A-Z]+)` (-\\d+)");

    private static Due due = new Due();
    private static TokenHeart heart = null;

    public static void main(String[] args) throws IOException, ReflectiveOperationException {
        List<String> lines = Files.readAllLines(Path.of("README.md"));
        boolean isCode = false;
        for (String line : lines) {
            if (line.startsWith("```")) {
                isCode = line.equals("```java");
            } else if (isCode) {
                code(line);
            } else {
                constants(line);
            }
        }
        due.is("there are calls", heart == null ? 0 : 1, 1);
        due.end("ReadmeTest");
    }

    private static void code(String line) throws ReflectiveOperationException {
        Matcher call = CALL.matcher(line);
        if (line.equals(NEW)) {
            heart = new TokenHeart();
        } else if (heart != null && call.matches()) {
            due.is(line, answer(call.group(1), call.group(2)), Integer.parseInt(call.group(3)));
        } else {
            due.is("a line that is no call: " + line, 0, 1);
        }
    }

    private static int answer(String name, String told) throws ReflectiveOperationException {
        String[] numbers = told.isEmpty() ? new String[0] : told.split(", ");
        Object[] values = new Object[numbers.length];
        for (int i = 0; i < numbers.length; i++) {
            values[i] = Integer.decode(numbers[i]);
        }
        for (Method method : TokenHeart.class.getDeclaredMethods()) {
            if (method.getName().equals(name)) {
                return (Integer) method.invoke(heart, values);
            }
        }
        throw new NoSuchMethodException(name);
    }

    /** What a constant is, where README.md tells it. */
    private static void constants(String line) throws ReflectiveOperationException {
        Matcher constant = CONSTANT.matcher(line);
        while (constant.find()) {
            int value = TokenHeart.class.getDeclaredField(constant.group(1)).getInt(null);
            due.is(constant.group(1), value, Integer.parseInt(constant.group(2)));
        }
    }
}
