import java.io.IOException;
import java.lang.reflect.InvocationTargetException;
import java.lang.reflect.Method;
import java.lang.reflect.Modifier;
import java.nio.file.Files;
import java.nio.file.Path;
import java.util.Collections;
import java.util.List;
import java.util.regex.Matcher;
import java.util.regex.Pattern;

/** README.md is true: each call of its example answers what stands behind it, and its table has every call. */
public final class ReadmeTest {
    private static final Pattern MADE = Pattern.compile("TextEnds ends = new TextEnds\\(([^)]*)\\);.*");
    private static final Pattern CALL = Pattern.compile("ends\\.(\\w+)\\(([^)]*)\\);\\s*// (-?\\d+|true|false)?\\b.*");

    public static void main(String[] args) throws IOException, ReflectiveOperationException {
        List<String> lines = Files.readAllLines(Path.of("README.md"));
        exampleDue(lines);
        tableDue(lines);
        Check.end();
    }

    private static void exampleDue(List<String> lines) throws ReflectiveOperationException {
        int from = lines.indexOf("```java") + 1;
        int to = from + lines.subList(from, lines.size()).indexOf("```");
        Matcher made = MADE.matcher(lines.get(from));
        Check.due("the example makes an object: " + lines.get(from), made.matches(), true);
        int[] sizes = numbers(made.group(1));
        TextEnds ends = new TextEnds(sizes[0], sizes[1], sizes[2]);
        for (String line : lines.subList(from + 1, to)) {
            if (!line.isEmpty()) {
                callDue(ends, line);
            }
        }
    }

    private static void callDue(TextEnds ends, String line) throws ReflectiveOperationException {
        Matcher call = CALL.matcher(line);
        Check.due("is a call: " + line, call.matches(), true);
        Check.due(line, answer(ends, call.group(1), numbers(call.group(2))), String.valueOf(call.group(3)));
    }

    // A call that answers nothing counts as "null", as does a line that tells no answer.
    private static String answer(TextEnds ends, String name, int[] numbers)
            throws IllegalAccessException, InvocationTargetException, NoSuchMethodException {
        Class<?>[] types = new Class<?>[numbers.length];
        Object[] values = new Object[numbers.length];
        for (int i = 0; i < numbers.length; i++) {
            types[i] = int.class;
            values[i] = numbers[i];
        }
        return String.valueOf(TextEnds.class.getMethod(name, types).invoke(ends, values));
    }

    private static int[] numbers(String list) {
        String[] words = list.isEmpty() ? new String[0] : list.split(", ");
        int[] numbers = new int[words.length];
        for (int i = 0; i < words.length; i++) {
            numbers[i] = Long.decode(words[i]).intValue();
        }
        return numbers;
    }

    private static void tableDue(List<String> lines) {
        for (Method method : TextEnds.class.getDeclaredMethods()) {
            if (Modifier.isPublic(method.getModifiers())) {
                String parameters = String.join(", ", Collections.nCopies(method.getParameterCount(), "\\w+"));
                String row = "\\| `" + method.getName() + "\\(" + parameters + "\\)` .*";
                Check.due("the table has " + method, lines.stream().filter(line -> line.matches(row)).count(), 1);
            }
        }
    }
}
