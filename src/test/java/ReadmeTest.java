import java.io.IOException;
import java.lang.reflect.Method;
import java.nio.file.Files;
import java.nio.file.Path;
import java.util.HashSet;
import java.util.Set;
import java.util.regex.Matcher;
import java.util.regex.Pattern;

/** Makes the calls of the examples in README.md, which each tell their answer behind "//", and looks that all calls are named. */
public final class ReadmeTest {
    private static final Check check = new Check("ReadmeTest");
    private static final Pattern CALL = Pattern.compile("x\\.(\\w+)\\((.*)\\); +// ([A-Z_]+|-?\\d+)(:.*)?");
    private static final String MAKES = "SplitSecrets x = new SplitSecrets();";

    public static void main(String[] args) throws IOException, ReflectiveOperationException {
        String page = Files.readString(Path.of("README.md"));
        Matcher example = Pattern.compile("(?s)```java\n(.*?)```").matcher(page);
        int calls = 0;
        while (example.find()) {
            calls += callsMade(example.group(1).split("\n"));
        }
        check.holds("there are examples", calls > 0);
        allCallsAreNamed(page);
        check.end();
    }

    private static int callsMade(String[] lines) throws ReflectiveOperationException {
        check.due("the first line of an example", lines[0], MAKES);
        SplitSecrets x = new SplitSecrets();
        for (int i = 1; i < lines.length; i++) {
            Matcher call = CALL.matcher(lines[i]);
            check.holds("it is a call with its answer: " + lines[i], call.matches());
            if (call.matches()) {
                check.due(lines[i], answer(x, call.group(1), call.group(2)), number(call.group(3)));
            }
        }
        return lines.length - 1;
    }

    private static int answer(SplitSecrets x, String name, String arguments) throws ReflectiveOperationException {
        String[] words = arguments.isEmpty() ? new String[0] : arguments.split(", ");
        for (Method method : SplitSecrets.class.getMethods()) {
            if (method.getName().equals(name) && method.getParameterCount() == words.length) {
                return (int) method.invoke(x, values(method.getParameterTypes(), words));
            }
        }
        throw new NoSuchMethodException(name + " with " + words.length + " arguments");
    }

    private static Object[] values(Class<?>[] types, String[] words) throws ReflectiveOperationException {
        Object[] values = new Object[words.length];
        for (int i = 0; i < words.length; i++) {
            long value = number(words[i]);
            if (types[i] == long.class) {
                values[i] = value;
            } else {
                values[i] = (int) value;
            }
        }
        return values;
    }

    /** Reads 12, -1, 0x6BL, 'k', SplitSecrets.OPEN or NONE. */
    private static long number(String word) throws ReflectiveOperationException {
        if (word.startsWith("'")) {
            return word.charAt(1);
        }
        if (word.startsWith("0x")) {
            return Long.parseUnsignedLong(word.substring(2, word.length() - 1), 16);
        }
        if (Character.isUpperCase(word.charAt(0))) {
            return SplitSecrets.class.getField(word.replace("SplitSecrets.", "")).getInt(null);
        }
        return Long.parseLong(word);
    }

    private static void allCallsAreNamed(String page) {
        Set<String> names = new HashSet<>();
        for (Method method : SplitSecrets.class.getDeclaredMethods()) {
            if (page.contains("`" + method.getName() + "`")) {
                names.add(method.getName());
            }
        }
        check.due("calls of the face that are named", names.size(), 27);
    }
}
