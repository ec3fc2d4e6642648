import java.io.IOException;
import java.lang.reflect.Method;
import java.lang.reflect.Modifier;
import java.nio.file.Files;
import java.nio.file.Path;
import java.util.ArrayList;
import java.util.HashMap;
import java.util.List;
import java.util.Map;
import java.util.Set;
import java.util.TreeSet;
import java.util.regex.Matcher;
import java.util.regex.Pattern;

/** The example of README.md, played line by line: what stands behind each call is what it answers. */
public final class ReadmeTest {
    private static final Path README = Path.of("README.md");
    private static final String NEW_HEAP = "ThingHeap heap = new ThingHeap();";
    private static final Pattern CALL =
            Pattern.compile("(?:int (\\w+) = )?heap\\.(\\w+)\\(([^)]*)\\); +// (-?\\w+): .+");

    private static final Map<String, Integer> numbers = new HashMap<>();
    private static final Set<String> methodsUnseen = new TreeSet<>();
    private static ThingHeap heap = null;
    private static int wrong = 0;

    private static void fault(String text) {
        wrong++;
        System.out.println(text);
    }

    public static void main(String[] args) throws IOException, ReflectiveOperationException {
        for (Method method : ThingHeap.class.getDeclaredMethods()) {
            if (Modifier.isPublic(method.getModifiers())) {
                methodsUnseen.add(method.getName());
            }
        }
        for (String line : exampleOf(Files.readAllLines(README))) {
            play(line);
        }
        if (!methodsUnseen.isEmpty()) {
            fault("the example does not show " + methodsUnseen);
        }
        System.out.println(wrong == 0 ? "the example answers as told" : wrong + " faults of the example");
        if (wrong != 0) {
            System.exit(1);
        }
    }

    private static List<String> exampleOf(List<String> lines) {
        List<String> example = new ArrayList<>();
        boolean inside = false;
        for (String line : lines) {
            if (line.startsWith("```")) {
                inside = line.equals("```java");
            } else if (inside) {
                example.add(line);
            }
        }
        return example;
    }

    private static void play(String line) throws ReflectiveOperationException {
        if (line.equals(NEW_HEAP)) {
            heap = new ThingHeap();
            return;
        }
        Matcher call = CALL.matcher(line);
        if (heap == null || !call.matches()) {
            fault("no call with its answer: " + line);
            return;
        }
        long answer = answerOf(call.group(2), call.group(3));
        if (answer != toldAs(call.group(4))) {
            fault("answered " + answer + ": " + line);
        }
        if (call.group(1) != null) {
            numbers.put(call.group(1), (int) answer);
        }
    }

    private static long answerOf(String name, String written) throws ReflectiveOperationException {
        methodsUnseen.remove(name);
        String[] words = written.isEmpty() ? new String[0] : written.split(", ");
        Class<?>[] types = new Class<?>[words.length];
        Object[] arguments = new Object[words.length];
        for (int n = 0; n < words.length; n++) {
            types[n] = int.class;
            Integer number = numbers.get(words[n]);
            arguments[n] = number != null ? number : Integer.valueOf(words[n]);
        }
        return ((Number) ThingHeap.class.getMethod(name, types).invoke(heap, arguments)).longValue();
    }

    private static long toldAs(String word) throws ReflectiveOperationException {
        return Character.isLetter(word.charAt(0))
                ? ThingHeap.class.getField(word).getInt(null)
                : Long.parseLong(word);
    }
}
