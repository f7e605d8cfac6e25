import java.io.IOException;
import java.lang.reflect.InvocationTargetException;
import java.lang.reflect.Method;
import java.lang.reflect.Modifier;
import java.nio.file.DirectoryStream;
import java.nio.file.Files;
import java.nio.file.Path;
import java.util.ArrayList;
import java.util.HashMap;
import java.util.List;
import java.util.Map;
import java.util.TreeSet;
import java.util.regex.Matcher;
import java.util.regex.Pattern;

/** README.md tells the truth: its example answers what it says, and it names all calls and all tests. */
public final class ReadmeTest {
    private static final String FIRST_LINE = "MoveRows rows = new MoveRows();";
    private static final Pattern CALL = Pattern.compile("(?:int (\\w+) = )?rows\\.(\\w+)\\(([^)]*)\\);(?: +// (.*))?");
    private static final Pattern NUMBER = Pattern.compile("(-?\\d+)(?::.*)?");
    private static final Pattern REFUSAL = Pattern.compile("throws (\\w+): .*");

    private static final Checks checks = new Checks();

    private final MoveRows rows = new MoveRows();
    private final Map<String, Integer> variables = new HashMap<>();

    public static void main(String[] args) throws IOException {
        List<String> lines = Files.readAllLines(Path.of("README.md"));
        new ReadmeTest().example(lines);
        callsNamed(lines);
        testsNamed(String.join("\n", lines));
        checks.end("ReadmeTest");
    }

    private void example(List<String> lines) {
        int start = lines.indexOf("```java");
        checks.due("README.md has an example", start >= 0);
        List<String> example = new ArrayList<>(lines.subList(start + 1, lines.size()));
        int end = example.indexOf("```");
        checks.due("the example has an end", end > 0);
        checks.dueText("the example's first line", example.get(0), FIRST_LINE);
        for (String line : example.subList(1, end)) {
            if (!line.isEmpty()) {
                exampleLine(line);
            }
        }
    }

    private void exampleLine(String line) {
        Matcher call = CALL.matcher(line);
        if (!call.matches()) {
            checks.due("the example's line is one call: " + line, false);
            return;
        }
        String answer = answer(call.group(2), call.group(3));
        if (call.group(1) != null) {
            variables.put(call.group(1), Integer.parseInt(answer));
        }
        checks.dueText("README.md: " + line, answer, told(call.group(4), answer));
    }

    /** What the comment says that the call answers; a call whose comment tells no answer must only not be refused. */
    private static String told(String comment, String answer) {
        String words = comment == null ? "" : comment;
        Matcher number = NUMBER.matcher(words);
        Matcher refusal = REFUSAL.matcher(words);
        if (number.matches()) {
            return number.group(1);
        }
        if (refusal.matches()) {
            return "throws." + refusal.group(1);
        }
        return answer.startsWith("throws") ? "no refusal" : answer;
    }

    private String answer(String name, String arguments) {
        String[] words = arguments.isEmpty() ? new String[0] : arguments.split(", ");
        Object[] numbers = new Object[words.length];
        for (int i = 0; i < words.length; i++) {
            numbers[i] = variables.containsKey(words[i]) ? variables.get(words[i]) : Integer.parseInt(words[i]);
        }
        try {
            Object answer = methodNamed(name).invoke(rows, numbers);
            return answer == null ? "nothing" : answer.toString();
        } catch (InvocationTargetException e) {
            return "throws." + e.getCause().getClass().getSimpleName();
        } catch (IllegalAccessException e) {
            return e.toString();
        }
    }

    private static Method methodNamed(String name) {
        for (Method m : MoveRows.class.getMethods()) {
            if (m.getName().equals(name)) {
                return m;
            }
        }
        throw new AssertionError("README.md calls " + name + ", which there is not");
    }

    private static void callsNamed(List<String> lines) {
        TreeSet<String> named = new TreeSet<>();
        Pattern row = Pattern.compile("\\| `(\\w+)\\((.*?)\\)` \\|.*");
        for (String line : lines) {
            Matcher m = row.matcher(line);
            if (m.matches()) {
                named.add(m.group(1) + " " + (m.group(2).isEmpty() ? 0 : m.group(2).split(", ").length));
            }
        }
        TreeSet<String> face = new TreeSet<>();
        for (Method m : MoveRows.class.getDeclaredMethods()) {
            if (Modifier.isPublic(m.getModifiers())) {
                face.add(m.getName() + " " + m.getParameterCount());
            }
        }
        checks.dueText("the calls that README.md names", named.toString(), face.toString());
    }

    private static void testsNamed(String text) throws IOException {
        TreeSet<String> named = new TreeSet<>();
        Matcher m = Pattern.compile("(?m)^\\| `(\\w+Test\\.java)` \\|").matcher(text);
        while (m.find()) {
            named.add(m.group(1));
        }
        TreeSet<String> there = new TreeSet<>();
        try (DirectoryStream<Path> files = Files.newDirectoryStream(Path.of("src/test/java"), "*Test.java")) {
            for (Path file : files) {
                there.add(file.getFileName().toString());
            }
        }
        checks.dueText("the tests that README.md names", named.toString(), there.toString());
        checks.due("README.md says how to run all tests", text.contains("\n    .ci/run\n"));
    }
}
