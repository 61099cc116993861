import java.lang.reflect.Method;
import java.lang.reflect.Modifier;
import java.nio.file.Files;
import java.nio.file.Path;
import java.util.regex.Matcher;
import java.util.regex.Pattern;

/** README.md's example answers what it says, and every call of the face stands in its tables. */
public final class ReadmeTest {
    private static final Pattern CALL = Pattern.compile("keeper\\.(\\w+)\\(([^)]*)\\);\\s*// (-?\\d+): ");

    public static void main(String[] args) throws Exception {
        String readme = Files.readString(Path.of("README.md"));
        example(readme);
        tables(readme);
        Check.finish("ReadmeTest");
    }

    private static void example(String readme) throws Exception {
        Matcher code = Pattern.compile("(?s)```java\n(.*?)```").matcher(readme);
        Check.due("an example", code.find() ? 1 : 0, 1);
        QueueKeeper keeper = new QueueKeeper();
        for (String line : code.group(1).split("\n")) {
            Matcher call = CALL.matcher(line);
            boolean isCall = line.startsWith("keeper.");
            Check.due("a call with its answer: " + line, call.find() == isCall ? 1 : 0, 1);
            if (isCall) {
                Object answer = method(call.group(1)).invoke(keeper, numbers(call.group(2)));
                Check.due(line, (Integer) answer, Integer.parseInt(call.group(3)));
            }
        }
    }

    private static Method method(String name) {
        for (Method m : QueueKeeper.class.getMethods()) {
            if (m.getName().equals(name) && m.getDeclaringClass() == QueueKeeper.class) {
                return m;
            }
        }
        throw new IllegalStateException(name);
    }

    private static Object[] numbers(String list) {
        if (list.isEmpty()) {
            return new Object[0];
        }
        String[] texts = list.split(", ");
        Object[] numbers = new Object[texts.length];
        for (int i = 0; i < texts.length; i++) {
            numbers[i] = Integer.decode(texts[i]);
        }
        return numbers;
    }

    private static void tables(String readme) {
        for (Method m : QueueKeeper.class.getDeclaredMethods()) {
            if (Modifier.isPublic(m.getModifiers())) {
                int numbers = m.getParameterCount();
                String due = "`" + m.getName() + "\\(" + (numbers == 0 ? "" : "\\w+(, \\w+){" + (numbers - 1) + "}") + "\\)`";
                Check.due("README tells of " + due, Pattern.compile("(?m)^\\| .*" + due + ".* \\|").matcher(readme).find() ? 1 : 0, 1);
            }
        }
    }
}
