import java.io.IOException;
import java.lang.reflect.Method;
import java.lang.reflect.Modifier;
import java.nio.file.Files;
import java.nio.file.Path;
import java.util.HashMap;
import java.util.Map;
import java.util.TreeSet;
import java.util.regex.Matcher;
import java.util.regex.Pattern;

/** The calls that README.md shows, in one run, with the answers that it writes behind them. */
final class ReadmeTest {
    private static final Pattern CALL =
        Pattern.compile("(?:int (\\w+) = )?hall\\.(\\w+)\\((.*)\\); +// (throws )?(-?\\w+)(?:: .+)?");
    private static final String MAKES_THE_HALL = "GongCycles hall = new GongCycles();";

    private static final Map<String, Integer> numbers = new HashMap<>();
    private static final TreeSet<String> unshown = new TreeSet<>();
    private static GongCycles hall;

    private ReadmeTest() {
    }

    public static void main(String[] args) throws IOException, ReflectiveOperationException {
        for (Method method : GongCycles.class.getDeclaredMethods()) {
            if (Modifier.isPublic(method.getModifiers())) {
                unshown.add(method.getName());
            }
        }
        boolean java = false;
        for (String line : Files.readAllLines(Path.of("README.md"))) {
            if (line.startsWith("```")) {
                java = line.equals("```java");
            } else if (java) {
                shown(line);
            }
        }
        Check.same("calls that README.md does not show", unshown.toString(), "[]");
        Check.end();
    }

    private static void shown(String line) throws ReflectiveOperationException {
        if (line.equals(MAKES_THE_HALL)) {
            hall = new GongCycles();
            return;
        }
        Matcher call = CALL.matcher(line);
        if (!call.matches()) {
            throw new AssertionError("no call with its answer: " + line);
        }
        int[] a = arguments(call.group(3));
        String got = Check.answerOf(() -> Calls.made(hall, call.group(2), a));
        Check.same(line, got, call.group(4) == null ? call.group(5) : "throws." + call.group(5));
        if (call.group(1) != null) {
            numbers.put(call.group(1), Integer.parseInt(got));
        }
        unshown.remove(call.group(2));
    }

    private static int[] arguments(String text) throws ReflectiveOperationException {
        String[] words = text.isEmpty() ? new String[0] : text.split(", ");
        int[] a = new int[words.length];
        for (int at = 0; at < a.length; at++) {
            a[at] = argument(words[at]);
        }
        return a;
    }

    private static int argument(String word) throws ReflectiveOperationException {
        if (word.startsWith("GongCycles.")) {
            return GongCycles.class.getField(word.substring("GongCycles.".length())).getInt(null);
        }
        return numbers.containsKey(word) ? numbers.get(word) : Integer.parseInt(word);
    }
}
