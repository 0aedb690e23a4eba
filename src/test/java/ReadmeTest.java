import java.io.IOException;
import java.lang.reflect.InvocationTargetException;
import java.lang.reflect.Method;
import java.lang.reflect.Modifier;
import java.nio.file.DirectoryStream;
import java.nio.file.Files;
import java.nio.file.Path;
import java.util.ArrayList;
import java.util.HashMap;
import java.util.List;
import java.util.Map;
import java.util.regex.Matcher;
import java.util.regex.Pattern;

/** What README.md says holds: its example answers so, and all calls and tests stand in it. */
public final class ReadmeTest {
    private static final Path README = Path.of("README.md");
    private static final Path TESTS = Path.of("src", "test", "java");
    private static final String MAKING = "MountTable table = new MountTable();";

    /** A line of the example: a variable perhaps, a call, its arguments, and its answer. */
    private static final Pattern LINE =
            Pattern.compile("(?:int (\\w+) = )?table\\.(\\w+)\\((.*)\\); *// ((?:throws )?[^ :]+)(?:: .*)?");

    private static final Checks CHECKS = new Checks();

    private final MountTable table = new MountTable();
    private final Map<String, Object> variables = new HashMap<>();

    public static void main(String[] args) throws IOException {
        List<String> readme = Files.readAllLines(README);
        new ReadmeTest().runExample(example(readme));
        String text = String.join("\n", readme);
        for (Method call : MountTable.class.getDeclaredMethods()) {
            if (Modifier.isPublic(call.getModifiers())) {
                names(text, call.getName());
            }
        }
        try (DirectoryStream<Path> tests = Files.newDirectoryStream(TESTS, "*Test.java")) {
            for (Path test : tests) {
                names(text, test.getFileName().toString().replace(".java", ""));
            }
        }
        CHECKS.end();
    }

    private static void names(String text, String name) {
        CHECKS.due(true, "README.md names " + name, () -> text.contains("`" + name + "`"));
    }

    private static List<String> example(List<String> readme) {
        int first = readme.indexOf("```java") + 1;
        List<String> lines = new ArrayList<>();
        for (int i = first; i < readme.size() && !readme.get(i).equals("```"); i++) {
            lines.add(readme.get(i));
        }
        return lines;
    }

    private void runExample(List<String> lines) {
        CHECKS.due(MAKING, "the first line of the example", () -> lines.get(0));
        for (String line : lines.subList(1, lines.size())) {
            Matcher parts = LINE.matcher(line);
            if (parts.matches()) {
                runLine(line, parts);
            } else {
                CHECKS.fault("the example has a line without a call or its answer: " + line);
            }
        }
    }

    private void runLine(String line, Matcher parts) {
        Object answer = answer(parts.group(2), parts.group(3).split(", *"));
        CHECKS.due(parts.group(4), line, () -> answer);
        if (parts.group(1) != null) {
            variables.put(parts.group(1), answer);
        }
    }

    private Object answer(String name, String[] written) {
        int count = written[0].isEmpty() ? 0 : written.length;
        Object[] arguments = new Object[count];
        for (int i = 0; i < count; i++) {
            arguments[i] = argument(written[i]);
        }
        for (Method call : MountTable.class.getMethods()) {
            if (call.getName().equals(name) && call.getParameterCount() == count) {
                return answerOf(call, arguments);
            }
        }
        return "no such call";
    }

    private Object argument(String written) {
        if (written.equals("true") || written.equals("false")) {
            return written.equals("true");
        }
        return variables.containsKey(written) ? variables.get(written) : Integer.valueOf(written);
    }

    private Object answerOf(Method call, Object[] arguments) {
        try {
            return call.invoke(table, arguments);
        } catch (InvocationTargetException e) {
            return "throws " + e.getCause().getClass().getSimpleName();
        } catch (IllegalAccessException e) {
            return "can't be called";
        }
    }
}
