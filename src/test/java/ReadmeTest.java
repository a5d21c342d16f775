import java.io.IOException;
import java.lang.reflect.Method;
import java.lang.reflect.Modifier;
import java.nio.file.Files;
import java.nio.file.Path;
import java.util.Map;
import java.util.Set;
import java.util.TreeMap;
import java.util.TreeSet;
import java.util.regex.Matcher;
import java.util.regex.Pattern;
import java.util.stream.Collectors;
import java.util.stream.IntStream;
import java.util.stream.Stream;

/** README.md tells the class as it is: its example, its tables of calls and refusals, its list of tests. */
public final class ReadmeTest {
    private static final Pattern EXAMPLE = Pattern.compile("(?m)^guard\\.(\\w+\\(.*\\));\\s+// (-?\\d+):");
    private static final Pattern CALL_ROW = Pattern.compile("(?m)^\\| `(\\w+)\\(([^)]*)\\)` \\|.*\\| ?([A-Z, ]*)\\|$");
    private static final Pattern CONSTANT = Pattern.compile("`([A-Z]+)`(?: \\|)? \\(?(-\\d)\\b");
    private static final Pattern INPUT_ROW = Pattern.compile("(?m)^\\| (\\d) \\| (\\d+) \\| [A-Z]+");
    private static final Pattern TEST_ROW = Pattern.compile("(?m)^\\| `(\\w+Test)` \\|");

    public static void main(String[] args) throws IOException {
        String page = Files.readString(Path.of("README.md"));
        example(page);
        callsAndRefusals(page);
        constants(page);
        inputs(page);
        tests(page);
        Check.end();
    }

    private static void example(String page) {
        PressGuard guard = new PressGuard();
        Matcher line = EXAMPLE.matcher(page);
        int played = 0;
        while (line.find()) {
            String call = line.group(1).replace("PressGuard.", "");
            Check.due("README's example: " + call, Check.answer(guard, call), Integer.parseInt(line.group(2)));
            played++;
        }
        Check.due("lines of the example without an answer", page.lines().filter(l -> l.startsWith("guard.")).count() - played, 0);
        Check.due("there is an example", played > 0);
    }

    /** Each call has a row, with its parameters; all of them far outside are refused as the row says first. */
    private static void callsAndRefusals(String page) {
        Map<String, Integer> told = new TreeMap<>();
        Matcher row = CALL_ROW.matcher(page);
        while (row.find()) {
            int parameters = row.group(2).isBlank() ? 0 : row.group(2).split(",").length;
            told.put(row.group(1), parameters);
            String call = row.group(1) + IntStream.range(0, parameters).mapToObj(k -> "MIN").collect(Collectors.joining(", ", "(", ")"));
            String first = row.group(3).split(",")[0].strip();
            Check.due("a refusal stands for " + call + " as it has parameters", parameters > 0 == !first.isEmpty());
            Check.run("README's first refusal", call + " = " + (first.isEmpty() ? "0" : first));
        }
        Map<String, Integer> face = new TreeMap<>();
        for (Method m : PressGuard.class.getDeclaredMethods()) {
            if (Modifier.isPublic(m.getModifiers())) {
                face.put(m.getName(), m.getParameterCount());
            }
        }
        Check.due("README has the calls " + told, told.equals(face));
    }

    private static void constants(String page) {
        Map<String, Integer> told = new TreeMap<>();
        Matcher one = CONSTANT.matcher(page);
        while (one.find()) {
            told.put(one.group(1), Integer.parseInt(one.group(2)));
        }
        Map<String, Integer> due = Map.of("UNKNOWN", PressGuard.UNKNOWN, "OUTSIDE", PressGuard.OUTSIDE, "STATE", PressGuard.STATE,
                "FULL", PressGuard.FULL, "NONE", PressGuard.NONE);
        Check.due("README has the constants " + told, told.equals(due));
    }

    private static void inputs(String page) {
        Matcher row = INPUT_ROW.matcher(page);
        int count = 0;
        while (row.find()) {
            Check.due("README's INPUT " + count, Integer.parseInt(row.group(1)), count);
            Check.due("README's number of INPUT " + count, Integer.parseInt(row.group(2)), 1 << count);
            count++;
        }
        Check.due("README's INPUTS", count, 9);
    }

    private static void tests(String page) throws IOException {
        Set<String> told = new TreeSet<>();
        Matcher row = TEST_ROW.matcher(page);
        while (row.find()) {
            told.add(row.group(1));
        }
        Set<String> there;
        try (Stream<Path> files = Files.list(Path.of("src/test/java"))) {
            there = files.map(f -> f.getFileName().toString()).filter(f -> f.endsWith("Test.java"))
                    .map(f -> f.substring(0, f.length() - ".java".length())).collect(Collectors.toCollection(TreeSet::new));
        }
        Check.due("README has the tests " + told + ", there are " + there, told.equals(there));
    }
}
