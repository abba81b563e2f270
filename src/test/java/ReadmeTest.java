import java.io.File;
import java.io.IOException;
import java.lang.reflect.Method;
import java.lang.reflect.Modifier;
import java.nio.file.Files;
import java.nio.file.Path;
import java.util.ArrayList;
import java.util.List;
import java.util.Set;
import java.util.TreeSet;
import java.util.regex.Matcher;
import java.util.regex.Pattern;

/** What README.md shows of the class's answers is what the class answers, line by line. */
public final class ReadmeTest {
    private static final Pattern MAKING = Pattern.compile("SlotCluster cluster = new SlotCluster\\((-?\\d+)\\);");
    private static final Pattern CALL = Pattern.compile("cluster\\.(\\w+)\\(([-\\d, ]*)\\);\\s+// (true|false|-?\\d+)(:.*)?");
    private static final Pattern CALL_IN_TABLE = Pattern.compile("\\| `(\\w+)\\([\\w, ]*\\)` \\|.*");
    private static final Pattern TEST_IN_TABLE = Pattern.compile("\\| `(\\w+Test)` \\|.*");
    private static final Checks CHECKS = new Checks();

    private final Set<String> shown = new TreeSet<>();
    private SlotCluster cluster;

    public static void main(String[] args) throws IOException, ReflectiveOperationException {
        List<String> lines = Files.readAllLines(Path.of("README.md"));
        ReadmeTest test = new ReadmeTest();
        test.eachAnswerIsTheClassesAnswer(lines);
        test.eachCallIsShown();
        eachCallIsInTheTable(lines);
        eachTestIsInTheTable(lines);
        CHECKS.end();
    }

    private void eachAnswerIsTheClassesAnswer(List<String> lines) throws ReflectiveOperationException {
        boolean isCode = false;
        for (int i = 0; i < lines.size(); i++) {
            String line = lines.get(i);
            if (line.startsWith("```")) {
                isCode = line.equals("```java");
            } else if (isCode) {
                oneLine("README.md, line " + (i + 1) + ": " + line, line);
            }
        }
    }

    /** A line that is neither the making of an object nor a call with its answer could show anything: it fails. */
    private void oneLine(String where, String line) throws ReflectiveOperationException {
        Matcher making = MAKING.matcher(line);
        Matcher call = CALL.matcher(line);
        if (making.matches()) {
            cluster = new SlotCluster(Integer.parseInt(making.group(1)));
        } else if (call.matches() && cluster != null) {
            shown.add(call.group(1));
            CHECKS.same(where, answer(call.group(1), numbersOf(call.group(2))), call.group(3));
        } else {
            CHECKS.fail(where + " shows no answer");
        }
    }

    private static List<Integer> numbersOf(String text) {
        List<Integer> numbers = new ArrayList<>();
        for (String number : text.split(",")) {
            if (!number.isBlank()) {
                numbers.add(Integer.valueOf(number.trim()));
            }
        }
        return numbers;
    }

    private String answer(String name, List<Integer> numbers) throws ReflectiveOperationException {
        Class<?>[] types = new Class<?>[numbers.size()];
        for (int i = 0; i < types.length; i++) {
            types[i] = int.class;
        }
        Method method = SlotCluster.class.getMethod(name, types);
        return String.valueOf(method.invoke(cluster, numbers.toArray()));
    }

    private void eachCallIsShown() {
        Set<String> unseen = face();
        unseen.removeAll(shown);
        CHECKS.same("calls without an example", unseen.toString(), "[]");
    }

    private static void eachCallIsInTheTable(List<String> lines) {
        CHECKS.same("calls in the table", namesIn(lines, CALL_IN_TABLE).toString(), face().toString());
    }

    private static void eachTestIsInTheTable(List<String> lines) {
        Set<String> tests = new TreeSet<>();
        for (String file : new File("src/test/java").list()) {
            tests.add(file.replace(".java", ""));
        }
        CHECKS.same("tests in the table", namesIn(lines, TEST_IN_TABLE).toString(), tests.toString());
    }

    private static Set<String> face() {
        Set<String> names = new TreeSet<>();
        for (Method method : SlotCluster.class.getDeclaredMethods()) {
            if (Modifier.isPublic(method.getModifiers())) {
                names.add(method.getName());
            }
        }
        return names;
    }

    private static Set<String> namesIn(List<String> lines, Pattern row) {
        Set<String> names = new TreeSet<>();
        for (String line : lines) {
            Matcher matcher = row.matcher(line);
            if (matcher.matches()) {
                names.add(matcher.group(1));
            }
        }
        return names;
    }
}
