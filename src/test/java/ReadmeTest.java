import java.io.IOException;
import java.lang.reflect.InvocationTargetException;
import java.lang.reflect.Method;
import java.lang.reflect.Modifier;
import java.nio.file.Files;
import java.nio.file.Path;
import java.util.List;
import java.util.regex.Matcher;
import java.util.regex.Pattern;

/** README.md keeps its word: its examples answer what stands behind them, no method is left out. */
public final class ReadmeTest {
    private static final String NEW_OBJECT = "Overwalks x = new Overwalks();";
    private static final Pattern CALL =
            Pattern.compile("x\\.(\\w+)\\(([^)]*)\\);\\s+// (\"[^\"]*\"|-?\\w+).*");

    public static void main(String[] args) throws IOException, IllegalAccessException {
        List<String> lines = Files.readAllLines(Path.of("README.md"));
        makesTheExamples(lines);
        namesEveryMethod(String.join("\n", lines));
        Checks.end();
    }

    private static void makesTheExamples(List<String> lines) throws IllegalAccessException {
        boolean isExample = false;
        int examples = 0;
        Overwalks x = null;
        for (String line : lines) {
            if (line.startsWith("```")) {
                isExample = line.equals("```java");
            } else if (isExample && line.equals(NEW_OBJECT)) {
                x = new Overwalks();
                examples++;
            } else if (isExample) {
                makesTheCall(x, line);
            }
        }
        Checks.due("whether README.md has examples", examples > 0, true);
    }

    private static void makesTheCall(Overwalks x, String line) throws IllegalAccessException {
        Matcher call = CALL.matcher(line);
        if (!call.matches()) {
            Checks.due("the form of " + line, "another", "x.call(numbers); // answer");
            return;
        }
        Checks.due(line, told(x, call.group(1), call.group(2)), call.group(3));
    }

    /** The answer as README.md writes it: a text in quotes, an exception by its name. */
    private static String told(Overwalks x, String name, String numbers) throws IllegalAccessException {
        try {
            Object answer = method(name).invoke(x, arguments(numbers));
            return answer instanceof String ? "\"" + answer + "\"" : String.valueOf(answer);
        } catch (InvocationTargetException e) {
            return e.getCause().getClass().getSimpleName();
        }
    }

    private static Method method(String name) {
        for (Method method : Overwalks.class.getDeclaredMethods()) {
            if (method.getName().equals(name) && Modifier.isPublic(method.getModifiers())) {
                return method;
            }
        }
        throw new AssertionError("Overwalks has no " + name);
    }

    private static Object[] arguments(String numbers) {
        if (numbers.isEmpty()) {
            return new Object[0];
        }
        String[] parts = numbers.split(", ");
        Object[] arguments = new Object[parts.length];
        for (int i = 0; i < parts.length; i++) {
            arguments[i] = Integer.valueOf(parts[i]);
        }
        return arguments;
    }

    private static void namesEveryMethod(String readme) {
        for (Method method : Overwalks.class.getDeclaredMethods()) {
            if (Modifier.isPublic(method.getModifiers())) {
                String name = "`" + method.getName() + "()`";
                Checks.due("whether README.md names " + name, readme.contains(name), true);
            }
        }
    }
}
