import java.io.IOException;
import java.lang.reflect.Method;
import java.nio.file.Files;
import java.nio.file.Path;
import java.util.Map;
import java.util.Set;
import java.util.TreeSet;
import java.util.regex.Matcher;
import java.util.regex.Pattern;
import java.util.stream.Stream;

/** README.md tells calls with their answers: each is made, and every call of the class is among them. */
public final class ReadmeTest {
    private static final String MAKING = "RailOffsets x = new RailOffsets();";
    private static final Pattern CALL =
        Pattern.compile("x\\.(\\w+)\\(([-0-9, ]*)\\); *// (-?[0-9]+|[A-Z]+)(?:: \\S.*)?");
    private static final Map<String, Long> NAMED = Map.of("NONE", (long) RailOffsets.NONE,
        "BAD", (long) RailOffsets.BAD, "STATE", (long) RailOffsets.STATE, "FULL", (long) RailOffsets.FULL,
        "NO", RailOffsets.NO);

    private static final Set<String> told = new TreeSet<>();
    private static RailOffsets x = null;

    public static void main(String[] args) throws IOException {
        boolean code = false;
        for (String line : Files.readAllLines(Path.of("README.md"))) {
            if (line.startsWith("```")) {
                code = line.equals("```java");
            } else if (code) {
                read(line);
            }
        }
        Set<String> calls = new TreeSet<>();
        for (Method m : RailOffsets.class.getDeclaredMethods()) {
            if (java.lang.reflect.Modifier.isPublic(m.getModifiers())) {
                calls.add(m.getName());
            }
        }
        Check.same("the calls that are told", told.toString(), calls.toString());
        Check.done("ReadmeTest");
    }

    private static void read(String line) {
        if (line.equals(MAKING)) {
            x = new RailOffsets();
            return;
        }
        Matcher call = CALL.matcher(line);
        boolean reads = call.matches();
        Check.due("a line of README.md that can be read: " + line, reads ? 1 : 0, 1);
        if (reads) {
            String name = call.group(1);
            String answer = call.group(3);
            told.add(name);
            Check.due(line, new Call(name, numbers(call.group(2))).on(x),
                NAMED.containsKey(answer) ? NAMED.get(answer) : Long.parseLong(answer));
        }
    }

    private static int[] numbers(String text) {
        return text.isEmpty() ? new int[0] : Stream.of(text.split(", ")).mapToInt(Integer::parseInt).toArray();
    }
}
