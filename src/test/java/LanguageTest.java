import java.io.IOException;
import java.io.InputStream;
import java.util.ArrayList;
import java.util.Arrays;
import java.util.HashSet;
import java.util.List;
import java.util.Map;
import java.util.Set;
import java.util.TreeMap;

/** Those rules of LANGUAGE.md that the compiled class shows: the library, what is thrown, how deep calls go. */
public final class LanguageTest {
    private static final int MOST_DEEP = 8;
    private static final String ENUM_SWITCH = "SpanCopier$1";
    private static final String[] LIBRARY = {
        "java/lang/Object.<init>", "java/lang/Enum.", "java/util/NoSuchElementException.<init>",
        "java/lang/String.length", "java/lang/String.charAt", "java/lang/System.arraycopy",
        "java/lang/Math.min(II)", "java/lang/Math.max(II)", "java/util/Arrays.fill", "java/util/Arrays.copyOf("};
    /** How a switch on an enum and values() are compiled. */
    private static final String[] COMPILER = {".clone()", ".values()", ".$values()", ".ordinal()"};
    private static final String[] THROWING = {"SpanCopier.unit(II)I", "SpanCopier.sum(I)I"};

    private final Map<String, List<String>> calls = new TreeMap<>();
    private int wrong;

    public static void main(String[] args) throws IOException {
        LanguageTest test = new LanguageTest();
        test.readAll();
        test.depth();
        System.exit(test.wrong == 0 ? 0 : 1);
    }

    private void want(boolean good, String what) {
        if (!good) {
            wrong++;
            System.out.println("language: " + what);
        }
    }

    private void readAll() throws IOException {
        read("SpanCopier");
        for (Class<?> inside : SpanCopier.class.getDeclaredClasses()) {
            read(inside.getName());
        }
        want(calls.containsKey("SpanCopier.feed(IIIII)I"), "the class was not read");
    }

    private void read(String name) throws IOException {
        try (InputStream in = LanguageTest.class.getResourceAsStream("/" + name + ".class")) {
            if (in == null) {
                want(false, name + " is not there");
                return;
            }
            ClassFile file = new ClassFile(in.readAllBytes());
            want(!file.hasDynamic, name + " has a lambda, a method reference or joins texts by +");
            file.catches.forEach((method, many) -> want(many == 0, method + " catches"));
            file.calls.forEach((method, called) -> called.forEach(one -> library(method, one)));
            file.makes.forEach(this::thrown);
            calls.putAll(file.calls);
        }
    }

    /** Rule 4. */
    private void library(String method, String called) {
        boolean own = called.startsWith("SpanCopier.") || called.startsWith("SpanCopier$");
        want(own || listed(called, LIBRARY) || Arrays.stream(COMPILER).anyMatch(called::contains),
                method + " calls " + called);
    }

    private static boolean listed(String called, String[] list) {
        return Arrays.stream(list).anyMatch(called::startsWith);
    }

    /** Rule 6, and promises 16 and 21: no other call throws. */
    private void thrown(String method, List<String> made) {
        for (String one : made) {
            boolean own = one.startsWith("SpanCopier$");
            boolean may = one.equals("java/util/NoSuchElementException") && listed(method, THROWING);
            want(own || may, method + " makes " + one);
        }
    }

    /** Rule 11; a method that stands open already is recursion, which rule 8 bounds. */
    private void depth() {
        int deepest = 0;
        for (String method : calls.keySet()) {
            if (!method.startsWith(ENUM_SWITCH)) {
                List<String> path = new ArrayList<>();
                List<String> longest = new ArrayList<>();
                follow(method, path, new HashSet<>(), longest);
                want(longest.size() <= MOST_DEEP, "calls go " + longest.size() + " deep: " + longest);
                deepest = Math.max(deepest, longest.size());
            }
        }
        System.out.println(calls.size() + " methods, calls go at most " + deepest + " deep");
    }

    private void follow(String method, List<String> path, Set<String> open, List<String> longest) {
        if (!calls.containsKey(method) || !open.add(method)) {
            return;
        }
        path.add(method);
        if (path.size() > longest.size()) {
            longest.clear();
            longest.addAll(path);
        }
        for (String called : new HashSet<>(calls.get(method))) {
            follow(called, path, open, longest);
        }
        path.remove(path.size() - 1);
        open.remove(method);
    }
}
