import java.lang.reflect.InvocationTargetException;
import java.lang.reflect.Method;
import java.lang.reflect.Modifier;
import java.nio.file.Files;
import java.nio.file.Path;
import java.util.ArrayList;
import java.util.List;
import java.util.regex.Matcher;
import java.util.regex.Pattern;

/** Makes the calls of the document's examples and of the README's, as they are written there. */
public final class ExampleTests extends Checks {
    private static final Pattern OBJECT = Pattern.compile("new ScanCompare\\((-?\\d+), (-?\\d+)\\)");
    private static final Pattern CALL = Pattern.compile("(\\w+)\\(([^)]*)\\)");
    private static final Pattern EXAMPLE = Pattern.compile("(?m)^\\d\\. [^:\n]*: (new ScanCompare\\(.*)\\.$");
    private static final Pattern BLOCK = Pattern.compile("(?s)```java\n(.*?)```");
    private static final Pattern LINE = Pattern.compile("x\\.(\\w+\\([^)]*\\)); +// (throws \\w+|-?\\w+).*");
    private static final Pattern TYPED = Pattern.compile("for \\(char c : \"([^\"]*)\".*");

    public static void main(String[] args) throws Exception {
        documentExamples(Files.readString(Path.of("../shared/DOC.md")));
        readmeExamples(Files.readString(Path.of("README.md")));
        end("all examples hold");
    }

    private static void documentExamples(String document) throws Exception {
        int examples = 0;
        int calls = 0;
        Matcher m = EXAMPLE.matcher(document);
        while (m.find()) {
            examples++;
            String[] steps = m.group(1).split("; ");
            ScanCompare x = made(steps[0]);
            for (int i = 1; i < steps.length; i++) {
                title = "example " + examples + ", " + steps[i];
                String[] sides = steps[i].split(" = ");
                due(answer(x, sides[0]), sides[1]);
                calls++;
            }
        }
        title = "the examples and calls that were found";
        due(examples + " " + calls, "4 37");
    }

    private static void readmeExamples(String readme) throws Exception {
        int calls = 0;
        Matcher m = BLOCK.matcher(readme);
        ScanCompare x = null;
        while (m.find()) {
            for (String line : m.group(1).split("\n")) {
                title = "README: " + line;
                Matcher call = LINE.matcher(line);
                Matcher typed = TYPED.matcher(line);
                if (line.contains("new ScanCompare(")) {
                    x = made(line);
                } else if (call.matches()) {
                    due(answer(x, call.group(1)), call.group(2));
                    calls++;
                } else if (typed.matches()) {
                    type(x, typed.group(1));
                }
            }
        }
        title = "the README's calls";
        due(calls > 10, true);
    }

    private static ScanCompare made(String step) {
        Matcher m = OBJECT.matcher(step);
        due(m.find(), true);
        return new ScanCompare(Integer.parseInt(m.group(1)), Integer.parseInt(m.group(2)));
    }

    private static Object answer(ScanCompare x, String step) throws Exception {
        Matcher m = CALL.matcher(step);
        due(m.matches(), true);
        Method method = methodNamed(m.group(1));
        try {
            return method.invoke(x, values(method.getParameterTypes(), m.group(2)));
        } catch (InvocationTargetException e) {
            return "throws " + e.getCause().getClass().getSimpleName();
        }
    }

    private static Method methodNamed(String name) {
        for (Method method : ScanCompare.class.getDeclaredMethods()) {
            if (method.getName().equals(name) && Modifier.isPublic(method.getModifiers())) {
                return method;
            }
        }
        throw new IllegalStateException("no method " + name);
    }

    private static Object[] values(Class<?>[] types, String written) {
        List<Object> all = new ArrayList<>();
        for (String value : written.isEmpty() ? new String[0] : written.split(", ")) {
            Class<?> type = types[all.size()];
            if (type == boolean.class) {
                all.add(Boolean.parseBoolean(value));
            } else if (type == long.class) {
                all.add(Long.parseLong(value));
            } else {
                all.add(Integer.parseInt(value));
            }
        }
        return all.toArray();
    }
}
