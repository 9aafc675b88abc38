import java.io.IOException;
import java.lang.reflect.InvocationTargetException;
import java.lang.reflect.Method;
import java.nio.file.Files;
import java.nio.file.Path;
import java.util.HashMap;
import java.util.Map;
import java.util.regex.Matcher;
import java.util.regex.Pattern;

/** The examples of README.md, whose lines are called as they stand there. */
public final class ReadmeTest {
    private static final Pattern EXAMPLE = Pattern.compile("```java\n(.*?)```", Pattern.DOTALL);
    private static final Pattern NEW_OBJECT = Pattern.compile("TideMills mills = new TideMills\\(\\);");
    private static final Pattern CALL =
            Pattern.compile("(?:int (\\w+) = )?mills\\.(\\w+)\\((.*?)\\); +// (throws \\w+|-?[0-9.]+)(:.*)?");

    private static final Check check = new Check("ReadmeTest");

    private final Map<String, Integer> variables = new HashMap<>();
    private TideMills mills;

    private ReadmeTest() {
    }

    public static void main(String[] args) throws IOException, IllegalAccessException {
        Matcher example = EXAMPLE.matcher(Files.readString(Path.of("README.md")));
        int examples = 0;
        while (example.find()) {
            new ReadmeTest().follow(example.group(1));
            examples++;
        }
        check.due("examples", 2, examples);
        check.end();
    }

    private void follow(String example) throws IllegalAccessException {
        for (String line : example.split("\n")) {
            Matcher call = CALL.matcher(line);
            if (NEW_OBJECT.matcher(line).matches()) {
                mills = new TideMills();
            } else if (call.matches()) {
                String got = answer(call.group(2), call.group(3));
                check.dueText(line, call.group(4), got);
                if (call.group(1) != null) {
                    variables.put(call.group(1), Integer.valueOf(got));
                }
            } else {
                check.report("no call with its answer: " + line);
            }
        }
    }

    private String answer(String name, String text) throws IllegalAccessException {
        String[] values = text.isEmpty() ? new String[0] : text.split(", ");
        Object[] arguments = new Object[values.length];
        for (int at = 0; at < values.length; at++) {
            arguments[at] = valueOf(values[at]);
        }
        try {
            return String.valueOf(method(name).invoke(mills, arguments));
        } catch (InvocationTargetException e) {
            return "throws " + e.getCause().getClass().getSimpleName();
        }
    }

    private int valueOf(String text) {
        if (text.charAt(0) == '\'') {
            return text.charAt(1);
        }
        return variables.containsKey(text) ? variables.get(text) : Integer.parseInt(text);
    }

    private static Method method(String name) {
        for (Method method : TideMills.class.getMethods()) {
            if (method.getName().equals(name)) {
                return method;
            }
        }
        throw new IllegalStateException("README.md calls " + name + ", which is none of the calls");
    }
}
