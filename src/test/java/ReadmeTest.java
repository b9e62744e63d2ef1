import java.io.IOException;
import java.nio.file.Files;
import java.nio.file.Path;
import java.nio.file.Paths;
import java.util.ArrayList;
import java.util.List;

/** README.md tells the truth: its example answers as it says, and it names every test. Runs in the project's root. */
public final class ReadmeTest {
    private static final Path README = Paths.get("README.md");
    private static final Path TESTS = Paths.get("src/test/java");
    private static final String[] PUT = {
        "static void put(SpanCopier x, String text) {",
        "    int[] five = new int[5];",
        "    for (int i = 0; i < text.length(); i++) {",
        "        five[i % 20 / 4] |= text.charAt(i) << 24 - i % 4 * 8;",
        "        if (i % 20 == 19 || i == text.length() - 1) {",
        "            x.feed(five[0], five[1], five[2], five[3], five[4]);",
        "            java.util.Arrays.fill(five, 0);",
        "        }",
        "    }",
        "    x.end(text.length());",
        "}"};
    private static List<String> example = new ArrayList<>();
    private static int at;
    private static int wrong;

    public static void main(String[] args) throws IOException {
        String readme = Files.readString(README);
        int from = readme.indexOf("```java");
        int to = readme.indexOf("```", from + 1);
        want(from >= 0 && to > from, "there is no example");
        if (wrong == 0) {
            example = codeOf(readme.substring(from, to));
            runExample();
        }
        want(readme.contains(String.join("\n", PUT)), "put() is not the one that is tested");
        texts(readme);
        try (var files = Files.list(TESTS)) {
            files.map(file -> file.getFileName().toString().replace(".java", "")).forEach(
                    name -> want(readme.contains("`" + name + "`"), name + " is not named"));
        }
        System.exit(wrong == 0 ? 0 : 1);
    }

    /** As README.md has it. */
    private static void put(SpanCopier x, String text) {
        int[] five = new int[5];
        for (int i = 0; i < text.length(); i++) {
            five[i % 20 / 4] |= text.charAt(i) << 24 - i % 4 * 8;
            if (i % 20 == 19 || i == text.length() - 1) {
                x.feed(five[0], five[1], five[2], five[3], five[4]);
                java.util.Arrays.fill(five, 0);
            }
        }
        x.end(text.length());
    }

    /** The texts that are examples have no FAULT, and put() brings them whole. */
    private static void texts(String readme) {
        SpanCopier x = new SpanCopier();
        put(x, textOf(readme, "| ORDER,"));
        want(x.order() == 6 && x.count(0) == 4 && x.count(7) == 1, "the ORDER");
        put(x, textOf(readme, "| BOOK,"));
        want(x.book(0) == 1 && x.fault() == 0 && x.told(0) == 9, "the BOOK");
        put(x, textOf(readme, "| SENTENCE,"));
        want(x.sentence() == 5 && x.fault() == 0, "the SENTENCE");
        for (int many = 0; many <= 240; many++) {
            put(x, "x".repeat(many));
            want(x.count(8) == many, "put() of " + many);
            x.end(0);
        }
    }

    /** What stands in the last column of a table's row. */
    private static String textOf(String readme, String row) {
        int from = readme.indexOf(row);
        String line = from < 0 ? "" : readme.substring(from, readme.indexOf('\n', from));
        String[] columns = line.split("\\|");
        return columns.length > 3 ? columns[3].trim().replace("`", "") : "";
    }

    private static void want(boolean good, String what) {
        if (!good) {
            wrong++;
            System.out.println("README.md: " + what);
        }
    }

    private static List<String> codeOf(String block) {
        List<String> code = new ArrayList<>();
        for (String line : block.split("\n")) {
            if (line.startsWith("x.")) {
                code.add(line);
            }
        }
        return code;
    }

    /** The example's calls, in its order. */
    private static void runExample() {
        SpanCopier x = new SpanCopier();
        line("x.feed(0x6368756e, 0x6b20343b, 0x64656c61, 0x7920313b, 0);",
                x.feed(0x6368756e, 0x6b20343b, 0x64656c61, 0x7920313b, 0));
        line("x.end(16);", x.end(16) ? 1 : 0);
        line("x.order();", x.order());
        line("x.feed(0x01020304, 0x05060708, 0x090a0000, 0, 0);",
                x.feed(0x01020304, 0x05060708, 0x090a0000, 0, 0));
        line("x.end(10);", x.end(10) ? 1 : 0);
        line("x.file();", x.file());
        line("x.over();", x.over());
        line("x.ticks(1);", x.ticks(1));
        line("x.lose(0);", x.lose(0));
        line("x.ticks(60);", x.ticks(60));
        line("x.now(2);", x.now(2));
        want(at == example.size(), "the example has lines that are not tested");
    }

    /** The next line of the example is this call; the first number that is told of it, if any, is its answer. */
    private static void line(String call, int answer) {
        String line = at < example.size() ? example.get(at) : "";
        at++;
        want(line.startsWith(call), "the example should go on with " + call + " and has " + line);
        String told = line.contains("//") ? line.substring(line.indexOf("//")).replaceAll("^\\D*(\\d*).*", "$1") : "";
        want(told.isEmpty() || told.equals(String.valueOf(answer)), call + " answers " + answer + ", not " + told);
    }
}
