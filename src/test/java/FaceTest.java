import java.io.IOException;
import java.lang.reflect.Constructor;
import java.lang.reflect.Field;
import java.lang.reflect.Method;
import java.lang.reflect.Modifier;
import java.nio.file.Files;
import java.nio.file.Paths;
import java.util.Arrays;
import java.util.HashSet;
import java.util.List;
import java.util.NoSuchElementException;
import java.util.Set;
import java.util.TreeSet;

/** The public face, and those rules of LANGUAGE.md that can be seen from outside. Runs in the project's root. */
public final class FaceTest {
    private static final String[] FACE = {
        "feed int int int int int int", "end boolean int", "order int", "fault int", "file int", "ticks int int",
        "lose int int", "twice int int", "late int int int", "spoil int int", "prompt int", "crash int", "undo int",
        "now int int", "unit int int int", "span int int int int", "gap int int int", "resend int int int",
        "taken int int", "sum int int", "store int", "journal int int", "need int", "over int", "overAs int int",
        "drawn int int int", "odds int int int", "book int int", "told int int", "sentence int", "said int int",
        "image boolean int", "restore boolean int", "count int int"};
    private static final String[] BANNED = {"->", "::", "synchronized", "finally", "catch", "assert", "ordinal",
        "Exact(", "System.out", "getMessage", "hashCode", "toString", "random", "instanceof", "record "};
    private static int wrong;

    public static void main(String[] args) throws IOException {
        face();
        classes();
        source();
        System.exit(wrong == 0 ? 0 : 1);
    }

    private static void want(boolean good, String what) {
        if (!good) {
            wrong++;
            System.out.println("face: " + what);
        }
    }

    private static void face() {
        Class<?> c = SpanCopier.class;
        want(Modifier.isPublic(c.getModifiers()) && Modifier.isFinal(c.getModifiers()), "public and final");
        Set<String> found = new TreeSet<>();
        for (Method m : c.getDeclaredMethods()) {
            if (Modifier.isPrivate(m.getModifiers()) || m.isSynthetic()) {
                continue;
            }
            StringBuilder b = new StringBuilder(m.getName()).append(' ').append(m.getReturnType());
            for (Class<?> p : m.getParameterTypes()) {
                b.append(' ').append(p);
            }
            found.add(b.toString());
            want(Modifier.isPublic(m.getModifiers()), m + " is neither public nor private");
            boolean may = m.getName().equals("unit") || m.getName().equals("sum");
            Class<?>[] due = may ? new Class<?>[] {NoSuchElementException.class} : new Class<?>[] {};
            want(Arrays.equals(m.getExceptionTypes(), due), m + " throws");
        }
        want(found.equals(new TreeSet<>(Arrays.asList(FACE))), "the methods are " + found);
        for (Field f : c.getDeclaredFields()) {
            boolean none = f.getName().equals("NONE");
            want(none == Modifier.isPublic(f.getModifiers()) && (none || Modifier.isPrivate(f.getModifiers())),
                    f + " is seen");
        }
        Constructor<?>[] made = c.getDeclaredConstructors();
        want(made.length == 1 && Modifier.isPublic(made[0].getModifiers()), "one public constructor");
        want(SpanCopier.NONE == -1, "NONE");
    }

    private static void classes() {
        Set<String> names = new HashSet<>();
        for (String f : FACE) {
            names.add(f.split(" ")[0]);
        }
        Class<?>[] inside = SpanCopier.class.getDeclaredClasses();
        want(inside.length + 1 <= 12, "twelve classes at most, not " + (inside.length + 1));
        for (Class<?> c : inside) {
            want(Modifier.isStatic(c.getModifiers()) && Modifier.isPrivate(c.getModifiers()), c + " is not as told");
            for (Method m : c.getDeclaredMethods()) {
                want(!names.contains(m.getName()), m + " bears a name of the face");
                want(m.getParameterCount() <= 7, m + " has too many parameters");
            }
            fields(c);
        }
        fields(SpanCopier.class);
    }

    private static void fields(Class<?> c) {
        int own = 0;
        for (Field f : c.getDeclaredFields()) {
            if (Modifier.isStatic(f.getModifiers())) {
                want(Modifier.isFinal(f.getModifiers()), f + " is not final");
            } else {
                own++;
            }
        }
        want(own <= 20, c + " has " + own + " fields");
    }

    private static void source() throws IOException {
        List<String> lines = Files.readAllLines(Paths.get("src/main/java/SpanCopier.java"));
        int start = -1;
        int depth = 0;
        int from = 0;
        for (int i = 0; i < lines.size(); i++) {
            String line = lines.get(i);
            for (String word : BANNED) {
                want(!line.contains(word), "line " + (i + 1) + " has " + word);
            }
            want(!line.startsWith("import ") || line.equals("import java.util.Arrays;")
                    || line.equals("import java.util.NoSuchElementException;"), line);
            if (line.matches("\\s+(public|private).*\\) (throws \\w+ )?\\{")) {
                start = i;
                from = depth;
            }
            depth += count(line, '{') - count(line, '}');
            if (start >= 0 && depth == from) {
                want(i - start < 60, "the method at line " + (start + 1) + " is too long");
                start = -1;
            }
        }
    }

    private static int count(String line, char c) {
        int n = 0;
        for (char s : line.toCharArray()) {
            n += s == c ? 1 : 0;
        }
        return n;
    }
}
