import java.io.IOException;
import java.lang.reflect.InvocationTargetException;
import java.lang.reflect.Method;
import java.nio.file.Files;
import java.nio.file.Path;
import java.util.regex.Matcher;
import java.util.regex.Pattern;

/**
 * Makes the calls that README.md shows, and compares their answers with those that stand behind them there.
 * It is run in the directory of README.md, as .ci/run does.
 */
public final class ReadmeTest {
    private static final Pattern CALL = Pattern.compile("box\\.(\\w+)\\(([^)]*)\\); *// ('.'|throws \\w+|[^ :]+)(: .+)?");
    private static final String NEW_OBJECT = "Rasterbox box = new Rasterbox();";
    /** Fewer would mean that the run has gone from README.md, or is no longer found there. */
    private static final int LEAST_CALLS = 40;

    private Rasterbox box;
    private int calls;

    private ReadmeTest() {
    }

    public static void main(String[] args) throws IOException {
        Path readme = Path.of("README.md");
        if (Files.isRegularFile(readme)) {
            new ReadmeTest().follow(Files.readString(readme));
        } else {
            Due.tell("README.md is not there");
        }
        Due.end("ReadmeTest");
    }

    private void follow(String text) {
        boolean isJava = false;
        for (String line : text.split("\n")) {
            if (line.startsWith("```")) {
                isJava = line.equals("```java");
            } else if (isJava && line.equals(NEW_OBJECT)) {
                box = new Rasterbox();
            } else if (isJava && !line.isEmpty()) {
                compare(line);
            }
        }
        Due.is("README.md shows at least " + LEAST_CALLS + " calls with their answers: this", calls >= LEAST_CALLS, true);
        Due.is("README.md names .ci/run: this", text.contains(".ci/run"), true);
    }

    private void compare(String line) {
        Matcher call = CALL.matcher(line);
        if (box == null || !call.matches()) {
            Due.tell("README.md has a line without a call and its answer: " + line);
            return;
        }
        calls++;
        String[] arguments = call.group(2).isEmpty() ? new String[0] : call.group(2).split(", ");
        Due.is("README.md: " + call.group(1) + "(" + call.group(2) + ")", answerOf(call.group(1), arguments), call.group(3));
    }

    private String answerOf(String name, String[] arguments) {
        for (Method method : Rasterbox.class.getMethods()) {
            if (method.getName().equals(name) && method.getParameterCount() == arguments.length) {
                return answerOf(method, arguments);
            }
        }
        return "nothing, for there is no such method";
    }

    private String answerOf(Method method, String[] arguments) {
        Object[] values = new Object[arguments.length];
        for (int i = 0; i < values.length; i++) {
            boolean isTruth = method.getParameterTypes()[i] == boolean.class;
            values[i] = isTruth ? (Object) Boolean.valueOf(arguments[i]) : Integer.valueOf(arguments[i]);
        }
        try {
            Object answer = method.invoke(box, values);
            return answer instanceof Character ? "'" + answer + "'" : String.valueOf(answer);
        } catch (InvocationTargetException e) {
            return "throws " + e.getCause().getClass().getSimpleName();
        } catch (IllegalAccessException e) {
            return "nothing, for the method is not public";
        }
    }
}
