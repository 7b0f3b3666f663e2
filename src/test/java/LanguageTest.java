import java.io.IOException;
import java.lang.reflect.Field;
import java.lang.reflect.Method;
import java.lang.reflect.Modifier;
import java.nio.file.Files;
import java.nio.file.Path;
import java.util.Arrays;
import java.util.Collections;
import java.util.IdentityHashMap;
import java.util.List;
import java.util.Set;
import java.util.TreeSet;
import java.util.regex.Matcher;
import java.util.regex.Pattern;

/** What of LANGUAGE.md can be seen without a reader: classes, words, sizes, and the room. */
public final class LanguageTest {
    private static final Checks CHECKS = new Checks("LanguageTest");

    public static void main(String[] args) throws IOException, IllegalAccessException {
        String source = Files.readString(Path.of("src/main/java/LinkPress.java"));
        classes();
        words(source);
        sizes(source);
        room();
        CHECKS.end();
    }

    private static void classes() {
        Set<String> face = new TreeSet<>();
        for (Method m : LinkPress.class.getMethods()) {
            face.add(m.getName());
        }
        for (Method m : LinkPress.class.getDeclaredMethods()) {
            CHECKS.holds(m + " bears no name of the face",
                Modifier.isPublic(m.getModifiers()) || !face.contains(m.getName()));
        }
        for (Class<?> inner : LinkPress.class.getDeclaredClasses()) {
            CHECKS.holds(inner + " is static", Modifier.isStatic(inner.getModifiers()));
            CHECKS.holds(inner + " is not public", !Modifier.isPublic(inner.getModifiers()));
            CHECKS.holds(inner + " has few fields", instanceFields(inner) <= 20);
            for (Method m : inner.getDeclaredMethods()) {
                CHECKS.holds(m + " bears no name of the face", !face.contains(m.getName()));
            }
        }
        CHECKS.holds("few classes", LinkPress.class.getDeclaredClasses().length <= 12);
    }

    private static int instanceFields(Class<?> c) {
        int n = 0;
        for (Field f : c.getDeclaredFields()) {
            n += Modifier.isStatic(f.getModifiers()) ? 0 : 1;
        }
        return n;
    }

    private static void words(String source) {
        String code = source.replaceAll("(?s)/\\*.*?\\*/", " ").replaceAll("//[^\n]*", " ");
        for (String word : List.of("throw", "throws", "try", "catch", "finally", "synchronized", "assert",
            "package", "protected", "volatile", "transient", "native", "var", "yield", "Object", "System.out",
            "equals", "hashCode", "toString", "random", "Thread", "new String", "Exact")) {
            CHECKS.holds("no " + word, !Pattern.compile("\\b" + Pattern.quote(word) + "\\b").matcher(code).find());
        }
        CHECKS.holds("no lambda, no method reference", !code.contains("->") && !code.contains("::"));
        CHECKS.holds("no annotation", !code.contains("@"));
        CHECKS.holds("no text", !code.contains("\""));
        CHECKS.holds("no division but of a constant by 2",
            !code.replace("Program.MOST_SPOTS / 2", "").matches("(?s).*[/%].*"));
        Matcher imports = Pattern.compile("import ([^;]*);").matcher(code);
        while (imports.find()) {
            CHECKS.holds("import " + imports.group(1), imports.group(1).equals("java.util.Arrays"));
        }
        Matcher library = Pattern.compile("\\b(Arrays|System|Math|Integer|Long)\\.(\\w+)").matcher(code);
        List<String> allowed = List.of("Arrays.fill", "System.arraycopy", "Math.min", "Math.max");
        while (library.find()) {
            CHECKS.holds(library.group(), allowed.contains(library.group()));
        }
    }

    private static void sizes(String source) {
        String[] lines = source.split("\n");
        int begin = -1;
        String end = "";
        for (int i = 0; i < lines.length; i++) {
            Matcher m = Pattern.compile("^( {4}| {8})(?=\\S)[\\w\\[\\] ]+\\((.*)\\) \\{$").matcher(lines[i]);
            if (begin < 0 && m.find()) {
                begin = i;
                end = m.group(1) + "}";
                CHECKS.holds("parameters at line " + (i + 1), m.group(2).split(",").length <= 7);
            } else if (begin >= 0 && lines[i].equals(end)) {
                CHECKS.holds("length at line " + (begin + 1), i - begin <= 60);
                begin = -1;
            }
            CHECKS.holds("width at line " + (i + 1), lines[i].length() <= 110);
        }
    }

    /** All that an object holds is made with it; the dearest calls make nothing more. */
    private static void room() throws IllegalAccessException {
        LinkPress x = new LinkPress();
        long before = elements(x, Collections.newSetFromMap(new IdentityHashMap<>()));
        for (int f = 0; f < 15; f++) {
            x.function();
            for (int i = 0; i < 19; i++) {
                x.put(f, 10, 6, 6, i % 3);
            }
            x.put(f, 31, 0, 0, 0);
        }
        for (int i = 0; i < 40; i++) {
            x.press(i % 2 == 0, true);
            x.run(i % 2, 20000);
            x.count(2);
        }
        long after = elements(x, Collections.newSetFromMap(new IdentityHashMap<>()));
        CHECKS.due("elements after many calls", after, before);
        CHECKS.holds("an object is small: " + before, before < 14000);
    }

    private static long elements(Object o, Set<Object> seen) throws IllegalAccessException {
        if (o == null || !seen.add(o)) {
            return 0;
        }
        if (o.getClass().isArray()) {
            long n = java.lang.reflect.Array.getLength(o);
            if (o instanceof int[][] rows) {
                n += Arrays.stream(rows).mapToLong(r -> r.length).sum();
            }
            return n;
        }
        long n = 0;
        for (Class<?> c = o.getClass(); c != Object.class; c = c.getSuperclass()) {
            for (Field f : c.getDeclaredFields()) {
                if (!Modifier.isStatic(f.getModifiers())) {
                    f.setAccessible(true);
                    n += 1 + (f.getType().isPrimitive() ? 0 : elements(f.get(o), seen));
                }
            }
        }
        return n;
    }
}
