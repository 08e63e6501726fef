import java.io.IOException;
import java.lang.reflect.Method;
import java.lang.reflect.Modifier;
import java.nio.file.Files;
import java.nio.file.Path;
import java.util.HashMap;
import java.util.Map;
import java.util.Set;
import java.util.TreeSet;
import java.util.regex.Matcher;
import java.util.regex.Pattern;
import java.util.stream.Collectors;
import java.util.stream.Stream;

/** Runs the calls that README.md shows, line by line, and asks for the answers that it tells behind them. */
public final class ReadmeTest {
    private static final Path README = Path.of("README.md");
    private static final Path TESTS = Path.of("src/test/java");
    private static final Pattern JAVA_BLOCK = Pattern.compile("(?ms)^```java\n(.*?)^```$");
    private static final String NEW_OFFICE = "VarietyCircuit office = new VarietyCircuit();";
    private static final Pattern CALL = Pattern.compile(
            "(?:int (\\w+) = )?office\\.(\\w+)\\(([^()]*)\\);\\s+// (-?\\d+|true|false)(?:: .+)?");

    private final Map<String, Integer> numbers = new HashMap<>();
    private final Set<String> shown = new TreeSet<>();
    private VarietyCircuit office = null;
    private int calls = 0;

    private ReadmeTest() {
    }

    public static void main(String[] args) throws IOException, ReflectiveOperationException {
        String readme = Files.readString(README);
        ReadmeTest test = new ReadmeTest();
        Matcher blocks = JAVA_BLOCK.matcher(readme);
        while (blocks.find()) {
            for (String line : blocks.group(1).split("\n")) {
                test.run(line.trim());
            }
        }
        test.checkThatAllIsShown();
        checkThatTestsAreNamed(readme);
        Due.end();
    }

    private void run(String line) throws ReflectiveOperationException {
        if (line.equals(NEW_OFFICE)) {
            office = new VarietyCircuit();
            calls = 0;
            return;
        }
        Matcher call = CALL.matcher(line);
        boolean told = call.matches() && office != null;
        Due.due("'" + line + "' is a call on an office with its answer", told, true);
        if (told) {
            calls++;
            Due.due("'" + line + "' is among an object's 512 calls", calls <= Office.MOST_CALLS, true);
            ask(line, call);
        }
    }

    private void ask(String line, Matcher call) throws ReflectiveOperationException {
        String[] words = call.group(3).isEmpty() ? new String[0] : call.group(3).split(", ");
        Method method = methodOf(call.group(2), words.length);
        Due.due("'" + line + "' calls what there is", method != null, true);
        if (method == null) {
            return;
        }
        shown.add(method.getName());
        Object answer = method.invoke(office, arguments(words));
        Due.due("'" + line + "' has the answer's type", answer instanceof Boolean, isTruth(call.group(4)));
        Due.due(line, asNumber(answer.toString()), asNumber(call.group(4)));
        if (call.group(1) != null) {
            numbers.put(call.group(1), asNumber(answer.toString()));
        }
    }

    private static Method methodOf(String name, int parameters) {
        for (Method m : VarietyCircuit.class.getDeclaredMethods()) {
            boolean fits = m.getName().equals(name) && m.getParameterCount() == parameters;
            if (fits && Modifier.isPublic(m.getModifiers())) {
                return m;
            }
        }
        return null;
    }

    private Object[] arguments(String[] words) {
        Object[] values = new Object[words.length];
        for (int i = 0; i < words.length; i++) {
            if (isTruth(words[i])) {
                values[i] = words[i].equals("true");
            } else {
                values[i] = number(words[i]);
            }
        }
        return values;
    }

    private int number(String word) {
        if (numbers.containsKey(word)) {
            return numbers.get(word);
        }
        return word.startsWith("0x") ? Integer.parseUnsignedInt(word.substring(2), 16) : Integer.parseInt(word);
    }

    private static boolean isTruth(String answer) {
        return answer.equals("true") || answer.equals("false");
    }

    private static int asNumber(String answer) {
        return isTruth(answer) ? (answer.equals("true") ? 1 : 0) : Integer.parseInt(answer);
    }

    private void checkThatAllIsShown() {
        for (Method m : VarietyCircuit.class.getDeclaredMethods()) {
            if (Modifier.isPublic(m.getModifiers())) {
                Due.due("README.md shows " + m.getName(), shown.contains(m.getName()), true);
            }
        }
    }

    private static void checkThatTestsAreNamed(String readme) throws IOException {
        Set<String> tests;
        try (Stream<Path> files = Files.list(TESTS)) {
            tests = files.map(f -> f.getFileName().toString()).filter(f -> f.endsWith("Test.java"))
                    .map(f -> f.substring(0, f.length() - 5)).collect(Collectors.toCollection(TreeSet::new));
        }
        Set<String> named = new TreeSet<>();
        Matcher rows = Pattern.compile("(?m)^\\| (\\w+Test) \\|").matcher(readme);
        while (rows.find()) {
            named.add(rows.group(1));
        }
        Due.due("README.md's table has " + named + ", the project " + tests, named.equals(tests), true);
        Due.due("README.md tells how to run the tests", readme.contains("`.ci/run`"), true);
    }
}
