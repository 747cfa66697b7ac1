import java.io.IOException;
import java.lang.reflect.Method;
import java.nio.file.Files;
import java.nio.file.Path;
import java.util.HashMap;
import java.util.List;
import java.util.Map;
import java.util.regex.Matcher;
import java.util.regex.Pattern;

/** The example in README.md: the class answers what stands behind each call, and so does the Model. */
public final class ReadmeTest {
    private static final Due due = new Due();
    private static final Pattern CALL =
            Pattern.compile("(?:int (\\w+) = )?x\\.(\\w+)\\((.*)\\); +// (-?\\d+)(?:[: ].*)?");
    private static final String MADE = "RubbedSheets x = new RubbedSheets();";

    public static void main(String[] args) throws IOException, ReflectiveOperationException {
        List<String> example = example(Files.readAllLines(Path.of("README.md")));
        for (Object x : new Object[] {new RubbedSheets(), new Model()}) {
            Map<String, Integer> names = new HashMap<>();
            for (String line : example) {
                Matcher call = CALL.matcher(line);
                if (!call.matches()) {
                    due.is("a call with its answer: " + line, 0, 1);
                    continue;
                }
                int got = answer(x, call.group(2), call.group(3), names);
                due.is(x.getClass().getName() + ": " + line, got, Integer.parseInt(call.group(4)));
                names.put(call.group(1), got);
            }
        }
        due.is("the example has calls", example.isEmpty() ? 0 : 1, 1);
        due.end("ReadmeTest");
    }

    /** The lines between the marks of the one Java block, but for the first, blank ones and those that only tell. */
    private static List<String> example(List<String> lines) {
        int from = lines.indexOf("```java");
        int length = lines.subList(from + 1, lines.size()).indexOf("```");
        List<String> block = lines.subList(from + 1, from + 1 + length);
        due.is("one block", from == lines.lastIndexOf("```java") ? 1 : 0, 1);
        due.is("it begins with " + MADE, block.get(0).equals(MADE) ? 1 : 0, 1);
        return block.subList(1, length).stream().filter(line -> !line.isBlank() && !line.startsWith("//")).toList();
    }

    private static int answer(Object x, String name, String given, Map<String, Integer> names)
            throws ReflectiveOperationException {
        String[] words = given.isEmpty() ? new String[0] : given.split(", ");
        Object[] values = new Object[words.length];
        Class<?>[] types = new Class<?>[words.length];
        for (int i = 0; i < words.length; i++) {
            boolean isBit = words[i].equals("true") || words[i].equals("false");
            types[i] = isBit ? boolean.class : int.class;
            values[i] = isBit ? (Object) Boolean.valueOf(words[i]) : (Object) number(words[i], names);
        }
        Method method = x.getClass().getDeclaredMethod(name, types);
        return (Integer) method.invoke(x, values);
    }

    private static int number(String word, Map<String, Integer> names) {
        return names.containsKey(word) ? names.get(word) : Integer.decode(word);
    }
}
