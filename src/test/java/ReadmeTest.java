import java.io.IOException;
import java.lang.reflect.Method;
import java.lang.reflect.Modifier;
import java.nio.file.Files;
import java.nio.file.Path;
import java.util.Arrays;
import java.util.List;
import java.util.Set;
import java.util.TreeSet;
import java.util.regex.Matcher;
import java.util.regex.Pattern;
import java.util.stream.Stream;

/** README.md: each answer that it shows is that of the class and of the Model, and no call or test is left out. */
public final class ReadmeTest {
    private static final Pattern SHOWN = Pattern.compile("c\\.(\\w+)\\(([^)]*)\\); +// (\\d+|BAD|NO|FULL|NONE)(: .*)?");
    private static final List<String> REFUSALS = List.of("BAD", "NO", "FULL", "NONE");

    private static final CallSigns REAL = new CallSigns();
    private static final Model MODEL = new Model();
    private static final Set<String> CALLED = new TreeSet<>();

    private ReadmeTest() { }

    public static void main(String[] args) throws Exception {
        Path file = Path.of(System.getProperty("readme", "README.md")).toAbsolutePath();
        String readme = Files.readString(file);
        String[] blocks = readme.split("```java\n");
        Due.due("how many examples", blocks.length - 1, 1);
        String[] lines = blocks[blocks.length - 1].split("```")[0].split("\n");
        Due.holds("it begins with a new object", lines[0].equals("CallSigns c = new CallSigns();"));
        for (int i = 1; i < lines.length; i++) {
            if (!lines[i].isEmpty() && !lines[i].startsWith("// ---- ")) show(lines[i]);
        }
        Due.holds("an object is used for at most 512 calls", lines.length <= 512);
        for (Method m : CallSigns.class.getDeclaredMethods()) {
            if (Modifier.isPublic(m.getModifiers())) Due.holds(m.getName() + " is shown", CALLED.contains(m.getName()));
        }
        answers(readme);
        testsAreNamed(readme, file.resolveSibling("src/test/java"));
        Due.end("ReadmeTest");
    }

    private static void show(String line) throws Exception {
        Matcher shown = SHOWN.matcher(line);
        Due.holds("a call with its answer: " + line, shown.matches());
        if (!shown.matches()) return;
        String name = shown.group(1);
        String[] words = shown.group(2).isEmpty() ? new String[0] : shown.group(2).split(", ");
        Class<?>[] types = new Class<?>[words.length];
        Arrays.fill(types, int.class);
        if (name.equals("write")) types[1] = long.class;
        Object[] numbers = new Object[words.length];
        for (int n = 0; n < words.length; n++) {
            if (types[n] == long.class) numbers[n] = Long.decode(words[n].replace("L", ""));
            else numbers[n] = Integer.parseInt(words[n]);
        }
        int refusal = REFUSALS.indexOf(shown.group(3));
        int want = refusal >= 0 ? -1 - refusal : Integer.parseInt(shown.group(3));
        Due.due(line, (int) CallSigns.class.getMethod(name, types).invoke(REAL, numbers), want);
        Due.due("by the Model: " + line, (int) Model.class.getMethod(name, types).invoke(MODEL, numbers), want);
        CALLED.add(name);
    }

    /** The table of answers below 0. */
    private static void answers(String readme) {
        for (int i = 0; i < REFUSALS.size(); i++) {
            String row = "| `" + REFUSALS.get(i) + "` | " + (-1 - i) + " |";
            Due.holds("README.md has " + row, readme.contains(row));
        }
    }

    private static void testsAreNamed(String readme, Path folder) throws IOException {
        try (Stream<Path> files = Files.list(folder)) {
            for (Path file : files.toList()) {
                String name = file.getFileName().toString().replace(".java", "");
                if (name.endsWith("Test")) Due.holds(name + " is told of", readme.contains("`" + name + "`"));
            }
        }
    }
}
