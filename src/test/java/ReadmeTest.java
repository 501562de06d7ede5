import java.io.IOException;
import java.lang.reflect.InvocationTargetException;
import java.lang.reflect.Method;
import java.nio.file.Files;
import java.nio.file.Path;
import java.util.List;
import java.util.regex.Matcher;
import java.util.regex.Pattern;

/** The calls that README.md shows answer what it says, and it tells of each method of the face. */
public final class ReadmeTest {
    private static final Checks checks = new Checks("ReadmeTest");
    private static final String MADE = "sums = new AnswerSums();";
    private static final Pattern CALL = Pattern.compile(
            "sums\\.(\\w+)\\(([^)]*)\\); +// (throws \\w+|true|false|-?\\d+)(:.*)?");

    public static void main(String[] args) throws IOException, IllegalAccessException {
        List<String> lines = Files.readAllLines(Path.of("README.md"));
        shownCalls(lines);
        toldMethods(String.join("\n", lines));
        checks.end();
    }

    private static void shownCalls(List<String> lines) throws IllegalAccessException {
        AnswerSums sums = null;
        for (String line : lines) {
            Matcher call = CALL.matcher(line);
            if (line.endsWith(MADE)) {
                sums = new AnswerSums();
            } else if (call.matches()) {
                checks.due(line, true, call.group(3).equals(answerOf(sums, call.group(1), call.group(2))));
            } else if (line.startsWith("sums.")) {
                checks.due("README.md shows no answer: " + line, true, false);
            }
        }
    }

    /** What a call answers, or "throws", and what. */
    private static String answerOf(AnswerSums sums, String name, String arguments)
            throws IllegalAccessException {
        Method method = methodOf(name);
        String[] texts = arguments.split(", ");
        Class<?>[] types = method.getParameterTypes();
        Object[] values = new Object[types.length];
        for (int i = 0; i < types.length; i++) {
            values[i] = types[i] == int.class ? (Object) Integer.valueOf(texts[i]) : Long.valueOf(texts[i]);
        }
        try {
            return String.valueOf(method.invoke(sums, values));
        } catch (InvocationTargetException e) {
            return "throws " + e.getCause().getClass().getSimpleName();
        }
    }

    private static Method methodOf(String name) {
        for (Method method : FaceTest.publicMethods()) {
            if (method.getName().equals(name)) {
                return method;
            }
        }
        throw new IllegalArgumentException("no method " + name);
    }

    /** Each method has its row in the table, and is shown in the calls. */
    private static void toldMethods(String page) {
        for (Method method : FaceTest.publicMethods()) {
            String name = method.getName();
            String row = "| `" + method.getReturnType() + " " + name + "(";
            checks.due("README.md tells of " + name, true, page.contains(row));
            checks.due("README.md shows " + name, true, page.contains("sums." + name + "("));
        }
    }
}
