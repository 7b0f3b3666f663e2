import java.io.IOException;
import java.lang.reflect.Method;
import java.nio.file.Files;
import java.nio.file.Path;
import java.util.regex.Matcher;
import java.util.regex.Pattern;

/** Each call that README.md shows answers what README.md says of it, and each call is told there. */
public final class ReadmeTest {
    private static final Pattern EXAMPLE = Pattern.compile("(?s)```java\n(.*?)```");
    private static final Pattern CALL = Pattern.compile("x\\.(\\w+)\\(([^)]*)\\);");
    private static final Pattern ANSWER = Pattern.compile("// (-?\\d+)");
    private static final Checks CHECKS = new Checks("ReadmeTest");

    public static void main(String[] args) throws IOException, ReflectiveOperationException {
        String readme = Files.readString(Path.of("README.md"));
        int examples = 0;
        Matcher example = EXAMPLE.matcher(readme);
        while (example.find()) {
            examples++;
            tryOut(example.group(1));
        }
        CHECKS.holds("README.md has examples", examples > 0);
        for (Method m : LinkPress.class.getMethods()) {
            if (m.getDeclaringClass() == LinkPress.class) {
                CHECKS.holds("README.md tells of " + m.getName(), readme.contains("`" + m.getName() + "("));
            }
        }
        CHECKS.end();
    }

    /** The number behind // is the answer of the last call of its line. */
    private static void tryOut(String example) throws ReflectiveOperationException {
        LinkPress x = new LinkPress();
        for (String line : example.split("\n")) {
            int answered = 0;
            Matcher call = CALL.matcher(line);
            while (call.find()) {
                answered = call(x, call.group(1), call.group(2));
            }
            Matcher answer = ANSWER.matcher(line);
            if (answer.find()) {
                CHECKS.due("README.md: " + line.strip(), answered, Integer.parseInt(answer.group(1)));
            }
        }
    }

    private static int call(LinkPress x, String name, String arguments) throws ReflectiveOperationException {
        String[] texts = arguments.isEmpty() ? new String[0] : arguments.split(", ");
        Object[] values = new Object[texts.length];
        Class<?>[] types = new Class<?>[texts.length];
        for (int i = 0; i < texts.length; i++) {
            boolean isNumber = texts[i].matches("-?\\d+");
            values[i] = isNumber ? (Object) Integer.valueOf(texts[i]) : (Object) Boolean.valueOf(texts[i]);
            types[i] = isNumber ? int.class : boolean.class;
        }
        return (Integer) LinkPress.class.getMethod(name, types).invoke(x, values);
    }
}
