import java.io.File;
import java.io.IOException;
import java.lang.reflect.InvocationTargetException;
import java.lang.reflect.Method;
import java.lang.reflect.Modifier;
import java.nio.file.Files;
import java.nio.file.Path;
import java.util.Arrays;
import java.util.List;
import java.util.regex.Matcher;
import java.util.regex.Pattern;

/** What README.md tells of the class and of its tests, so that it stays true. */
public final class ReadmeTest {
    private static final Path README = Path.of("README.md");
    private static final Path TESTS = Path.of("src/test/java");
    private static final String NEW_BENCH = "ChainBench bench = new ChainBench();";
    private static final Pattern CALL = Pattern.compile("bench\\.(\\w+)\\(([^)]*)\\); *// (.*)");
    private static final Pattern ANSWER = Pattern.compile("(true|false|-?[0-9]+)\\b.*");

    private static final Checks CHECK = new Checks("ReadmeTest");

    public static void main(String[] args) throws IOException {
        List<String> lines = Files.readAllLines(README);
        CHECK.sentence("the examples answer what they say", () -> examples(lines));
        CHECK.sentence("the table names every call and what it throws", () -> table(lines));
        CHECK.sentence("how to run the tests, and which there are", () -> tests(String.join("\n", lines)));
        CHECK.end();
    }

    private static void examples(List<String> lines) {
        ChainBench bench = null;
        boolean inExample = false;
        for (String line : lines) {
            if (line.startsWith("```")) {
                inExample = line.equals("```java");
            } else if (inExample && line.equals(NEW_BENCH)) {
                bench = new ChainBench();
            } else if (inExample && !line.isEmpty()) {
                example(bench, line);
            }
        }
    }

    private static void example(ChainBench bench, String line) {
        Matcher call = CALL.matcher(line);
        boolean isCall = call.matches();
        CHECK.due("\"" + line + "\" is a call with a comment", isCall, true);
        if (!isCall) {
            return;
        }
        Method method = methodOf(call.group(1));
        Matcher answer = ANSWER.matcher(call.group(3));
        boolean tells = answer.matches();
        CHECK.due("\"" + line + "\" tells an answer", tells, method.getReturnType() != void.class);
        CHECK.dueText(line, answerOf(bench, method, call.group(2)), tells ? answer.group(1) : "null");
    }

    private static Method methodOf(String name) {
        for (Method method : ChainBench.class.getDeclaredMethods()) {
            if (method.getName().equals(name)) {
                return method;
            }
        }
        throw new IllegalArgumentException(name);
    }

    private static String answerOf(ChainBench bench, Method method, String written) {
        String[] texts = written.isEmpty() ? new String[0] : written.split(", ");
        Object[] values = new Object[texts.length];
        for (int i = 0; i < texts.length; i++) {
            boolean isFlag = method.getParameterTypes()[i] == boolean.class;
            values[i] = isFlag ? (Object) Boolean.valueOf(texts[i]) : (Object) numberOf(texts[i]);
        }
        try {
            return String.valueOf(method.invoke(bench, values));
        } catch (InvocationTargetException e) {
            return e.getCause().getClass().getSimpleName();
        } catch (IllegalAccessException e) {
            throw new IllegalStateException(e);
        }
    }

    private static Integer numberOf(String text) {
        return text.startsWith("0b") ? Integer.parseInt(text.substring(2), 2) : Integer.parseInt(text);
    }

    private static void table(List<String> lines) {
        int rows = 0;
        for (String line : lines) {
            rows += line.startsWith("| `") ? 1 : 0;
        }
        List<Method> face = Arrays.stream(ChainBench.class.getDeclaredMethods())
            .filter(method -> Modifier.isPublic(method.getModifiers())).toList();
        CHECK.due("rows of the table", rows, face.size());
        for (Method method : face) {
            String row = rowOf(lines, method.getName());
            CHECK.due(method + " with its parameters", parametersOf(row), method.getParameterCount());
            for (Class<?> thrown : List.of(Checks.ARGUMENT, Checks.STATE, Checks.INDEX)) {
                boolean throwsIt = List.of(method.getExceptionTypes()).contains(thrown);
                CHECK.due(method + " told with " + thrown, row.contains("`" + thrown.getSimpleName() + "`"), throwsIt);
            }
        }
    }

    private static String rowOf(List<String> lines, String name) {
        for (String line : lines) {
            if (line.startsWith("| `" + name + "(")) {
                return line;
            }
        }
        return "";
    }

    private static int parametersOf(String row) {
        Matcher written = Pattern.compile("\\| `\\w+\\(([^)]*)\\)`.*").matcher(row);
        if (!written.matches()) {
            return -1;
        }
        return written.group(1).isEmpty() ? 0 : written.group(1).split(", ").length;
    }

    private static void tests(String text) {
        CHECK.due("names .ci/run", text.contains(".ci/run"), true);
        CHECK.due(".ci/run can be run", new File(".ci/run").canExecute(), true);
        for (String file : TESTS.toFile().list()) {
            CHECK.due("names " + file, text.contains("`" + file.replace(".java", "") + "`"), true);
        }
    }
}
