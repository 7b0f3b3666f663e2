import java.io.IOException;
import java.lang.reflect.Constructor;
import java.lang.reflect.Executable;
import java.lang.reflect.Field;
import java.lang.reflect.Method;
import java.lang.reflect.Modifier;
import java.nio.file.Files;
import java.nio.file.Path;
import java.util.Set;
import java.util.StringJoiner;
import java.util.TreeSet;
import java.util.regex.Matcher;
import java.util.regex.Pattern;

/** What can be seen of the class is what the document's public face tells, and nothing else. */
public final class FaceTest {
    private static final Path DOCUMENT = Path.of("..", "shared", "DOC.md");
    private static final Pattern FACE = Pattern.compile("(?s)## The public face\\s+```java\n(.*?)```");
    private static final Checks CHECKS = new Checks("FaceTest");

    public static void main(String[] args) throws IOException, IllegalAccessException {
        if (!Files.exists(DOCUMENT)) {
            System.out.println("FaceTest: without " + DOCUMENT + " the face is not compared");
            return;
        }
        Set<String> told = told(Files.readString(DOCUMENT));
        Set<String> seen = seen();
        for (String line : told) {
            CHECKS.holds("the class has: " + line, seen.contains(line));
        }
        for (String line : seen) {
            CHECKS.holds("the document has: " + line, told.contains(line));
        }
        CHECKS.end();
    }

    /** The lines of the document's face, without the names of parameters. */
    private static Set<String> told(String document) {
        Matcher face = FACE.matcher(document);
        CHECKS.holds("the document has a public face", face.find());
        Set<String> lines = new TreeSet<>();
        for (String line : face.group(1).split("\n")) {
            String plain = line.strip().replaceAll("[;{]", "").replaceAll("\\b(int|boolean) \\w+(?=[,)])", "$1");
            if (!plain.equals("}")) {
                lines.add(plain.strip());
            }
        }
        return lines;
    }

    /** All of the class that is not private. */
    private static Set<String> seen() throws IllegalAccessException {
        Set<String> lines = new TreeSet<>();
        lines.add(modifiers(LinkPress.class.getModifiers()) + "class LinkPress");
        for (Field f : LinkPress.class.getDeclaredFields()) {
            if (!Modifier.isPrivate(f.getModifiers())) {
                lines.add(modifiers(f.getModifiers()) + f.getType() + " " + f.getName() + " = " + f.get(null));
            }
        }
        for (Constructor<?> c : LinkPress.class.getDeclaredConstructors()) {
            if (!Modifier.isPrivate(c.getModifiers())) {
                lines.add(modifiers(c.getModifiers()) + "LinkPress" + parameters(c));
            }
        }
        for (Method m : LinkPress.class.getDeclaredMethods()) {
            if (!Modifier.isPrivate(m.getModifiers())) {
                lines.add(modifiers(m.getModifiers()) + m.getReturnType() + " " + m.getName() + parameters(m));
            }
        }
        return lines;
    }

    private static String modifiers(int modifiers) {
        String text = Modifier.toString(modifiers);
        return text.isEmpty() ? "" : text + " ";
    }

    private static String parameters(Executable e) {
        StringJoiner types = new StringJoiner(", ", "(", ")");
        for (Class<?> type : e.getParameterTypes()) {
            types.add(type.toString());
        }
        return types.toString();
    }
}
