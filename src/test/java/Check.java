import java.io.IOException;
import java.nio.file.Files;
import java.nio.file.Path;
import java.nio.file.Paths;
import java.util.NoSuchElementException;
import java.util.function.IntSupplier;

/** What the tests share: texts and files put in, answers compared, the number of wrong ones. */
final class Check {
    private static final Path DOCUMENT = Paths.get("../shared/DOC.md");
    private static int wrong;
    private static String promise = "";
    private static String document;

    private Check() {
    }

    static void promise(int number) {
        promise = "promise " + number;
    }

    /** What follows tests this sentence, which must stand in the document so. */
    static void says(String quote) {
        promise = "\"" + quote + "\"";
        if (document == null) {
            document = readDocument();
        }
        if (!document.isEmpty() && !document.contains(quote)) {
            wrong++;
            System.out.println(promise + " does not stand in the document");
        }
    }

    private static String readDocument() {
        try {
            return Files.exists(DOCUMENT) ? Files.readString(DOCUMENT) : "";
        } catch (IOException e) {
            return "";
        }
    }

    /** A call that is refused: its answer, and that all is as it was. */
    static void refused(SpanCopier x, String call, IntSupplier answer, int want) {
        String before = picture(x);
        is(call, answer.getAsInt(), want);
        same("behind " + call, picture(x), before);
    }

    static void same(String what, String got, String want) {
        if (!got.equals(want)) {
            wrong++;
            System.out.println(promise + ": " + what + " it is\n  " + got + "\nand should be\n  " + want);
        }
    }

    /** All that can be asked, the tape and what calls told last too. */
    static String picture(SpanCopier x) {
        StringBuilder b = new StringBuilder(world(x));
        b.append(" tape ").append(x.count(8)).append(" fault ").append(x.fault());
        for (int what = 0; what < 4; what++) {
            b.append(" told ").append(x.told(what)).append(" overAs ").append(x.overAs(what));
        }
        return b.toString();
    }

    /** All that an image keeps, as far as it can be asked; odds() sees some of what only later TICKS show. */
    static String world(SpanCopier x) {
        StringBuilder b = new StringBuilder("now");
        for (int what = 0; what < 12; what++) {
            b.append(' ').append(x.now(what));
        }
        for (int k = 0; k < x.now(3); k++) {
            b.append(" unit").append(k).append(' ').append(row(x, k));
        }
        for (int k = 0; k < x.now(4); k++) {
            b.append(" gap ").append(x.gap(k, 0)).append('-').append(x.gap(k, 1));
        }
        for (int k = 0; k < x.now(5); k++) {
            b.append(" resend ").append(x.resend(k, 0)).append('-').append(x.resend(k, 1));
        }
        b.append(" has");
        for (int i = 0; i < x.now(6); i++) {
            b.append(' ').append(x.taken(i));
        }
        b.append(" sums ").append(x.sum(0)).append(' ').append(x.sum(1)).append(" store ").append(x.store());
        for (int k = 0; k < 6; k++) {
            b.append(" journal ").append(x.journal(k));
        }
        for (int what = 0; what < 8; what++) {
            b.append(" count ").append(x.count(what));
        }
        b.append(" need ").append(x.need()).append(" said ").append(x.said(-1)).append(' ').append(x.said(0));
        return b.append(" odds ").append(x.odds(20, 7)).toString();
    }

    private static String row(SpanCopier x, int k) {
        StringBuilder b = new StringBuilder();
        for (int what = 0; what < 6; what++) {
            b.append(unitOrThrows(x, k, what)).append(' ');
        }
        for (int i = 0; i < 8 && x.span(k, i, 0) >= 0; i++) {
            b.append(x.span(k, i, 0)).append('-').append(x.span(k, i, 1)).append(' ');
        }
        return b.toString();
    }

    static void is(String call, int got, int want) {
        if (got != want) {
            wrong++;
            System.out.println(promise + ": " + call + " answered " + got + ", due is " + want);
        }
    }

    static void is(String call, boolean got, boolean want) {
        is(call, got ? 1 : 0, want ? 1 : 0);
    }

    /** All of now() in one line, those that a test names: 'what=answer' apart by blanks. */
    static void now(SpanCopier x, String answers) {
        for (String one : answers.split(" ")) {
            String[] sides = one.split("=");
            is("now(" + sides[0] + ") in [" + answers + "]", x.now(Integer.parseInt(sides[0])),
                    Integer.parseInt(sides[1]));
        }
    }

    /** unit(k, 0), unit(k, 1), .. as far as answers are given. */
    static void unit(SpanCopier x, int k, int... answers) {
        for (int what = 0; what < answers.length; what++) {
            is("unit(" + k + ", " + what + ")", unitOrThrows(x, k, what), answers[what]);
        }
    }

    static final int THROWS = Integer.MIN_VALUE;

    static int unitOrThrows(SpanCopier x, int k, int what) {
        try {
            return x.unit(k, what);
        } catch (NoSuchElementException e) {
            return THROWS;
        }
    }

    static int sumOrThrows(SpanCopier x, int what) {
        try {
            return x.sum(what);
        } catch (NoSuchElementException e) {
            return THROWS;
        }
    }

    /** The text is all that is on the tape then. */
    static void put(SpanCopier x, String text) {
        x.end(0);
        for (int[] n : TextMaker.numbers(text)) {
            x.feed(n[0], n[1], n[2], n[3], n[4]);
        }
        is("end of a text of " + text.length(), x.end(text.length()), true);
    }

    static int order(SpanCopier x, String text) {
        put(x, text);
        return x.order();
    }

    static int sentence(SpanCopier x, String text) {
        put(x, text);
        return x.sentence();
    }

    static int book(SpanCopier x, String text, int lives) {
        put(x, text);
        return x.book(lives);
    }

    /** A FILE of the bytes 1, 2, .. */
    static int file(SpanCopier x, int many) {
        StringBuilder b = new StringBuilder();
        for (int i = 1; i <= many; i++) {
            b.append((char) (i & 255));
        }
        put(x, b.toString());
        return x.file();
    }

    static SpanCopier with(String order, int many) {
        SpanCopier x = new SpanCopier();
        int lines = 0;
        for (char c : order.toCharArray()) {
            lines += c == ';' ? 1 : 0;
        }
        is("order() of " + order, order(x, order), lines);
        is("file() of " + many, file(x, many), many);
        return x;
    }

    static String blanks(int many) {
        StringBuilder b = new StringBuilder();
        for (int i = 0; i < many; i++) {
            b.append(' ');
        }
        return b.toString();
    }

    static String times(String text, int many) {
        StringBuilder b = new StringBuilder();
        for (int i = 0; i < many; i++) {
            b.append(text);
        }
        return b.toString();
    }

    static void end() {
        if (wrong > 0) {
            System.out.println(wrong + " answers are not as due");
            System.exit(1);
        }
    }
}
