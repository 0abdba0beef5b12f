import java.io.IOException;
import java.lang.reflect.Method;
import java.lang.reflect.Modifier;
import java.nio.file.Files;
import java.nio.file.Path;
import java.util.Arrays;
import java.util.TreeSet;
import java.util.regex.Matcher;
import java.util.regex.Pattern;

/** README.md's example answers as it says there, and its table has every call and no other. */
public final class ReadmeTest {
    private static final Pattern EXAMPLE = Pattern.compile("```java\n(.*?)```", Pattern.DOTALL);
    private static final Pattern CALL = Pattern.compile("m\\.(\\w+)\\(([-0-9, ]*)\\); +// (-?\\d+)(:.*)?");
    private static final Pattern ROW = Pattern.compile("\\| `(\\w+)\\(([a-z, ]*)\\)` \\|.*\\|[^|]*\\|");
    private static final String FIRST_LINE = "CloningMachine m = new CloningMachine();";

    private ReadmeTest() {
    }

    private static int[] numbers(String text) {
        return text.isEmpty() ? new int[0]
                : Arrays.stream(text.split(",")).map(String::trim).mapToInt(Integer::parseInt).toArray();
    }

    private static void exampleAnswersAsItSays(String readme) {
        Matcher example = EXAMPLE.matcher(readme);
        Faults.must(example.find(), "there is an example");
        String[] lines = example.group(1).split("\n");
        Faults.must(lines[0].equals(FIRST_LINE), "the example begins with a new object");
        Used m = new Used();
        for (int i = 1; i < lines.length; i++) {
            Matcher call = CALL.matcher(lines[i]);
            if (call.matches()) {
                m.due(Integer.parseInt(call.group(3)), call.group(1), numbers(call.group(2)));
            } else {
                Faults.must(lines[i].isEmpty(), "a call with its answer: " + lines[i]);
            }
        }
    }

    private static void everyCallIsInTheTable(String readme) {
        TreeSet<String> told = new TreeSet<>();
        for (String line : readme.split("\n")) {
            Matcher row = ROW.matcher(line);
            if (row.matches()) {
                int parameters = row.group(2).isEmpty() ? 0 : row.group(2).split(",").length;
                told.add(row.group(1) + " with " + parameters);
            }
        }
        TreeSet<String> there = new TreeSet<>();
        for (Method m : CloningMachine.class.getDeclaredMethods()) {
            if (Modifier.isPublic(m.getModifiers())) {
                there.add(m.getName() + " with " + m.getParameterCount());
            }
        }
        Faults.must(told.equals(there), "the table has all calls and no other: " + told);
    }

    public static void main(String[] args) throws IOException {
        Faults.in("README.md");
        String readme = Files.readString(Path.of("README.md"));
        exampleAnswersAsItSays(readme);
        everyCallIsInTheTable(readme);
        System.out.println(Faults.number() == 0 ? "README.md says what is so" : Faults.number() + " faults");
        if (Faults.number() != 0) {
            System.exit(1);
        }
    }
}
