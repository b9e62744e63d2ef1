import java.util.NoSuchElementException;

/** What the tests share: texts and files put in, answers compared, the number of wrong ones. */
final class Check {
    private static int wrong;
    private static String promise = "";

    private Check() {
    }

    static void promise(int number) {
        promise = "promise " + number;
    }

    static void is(String call, int got, int want) {
        if (got != want) {
            wrong++;
            System.out.println(promise + ": " + call + " answered " + got + ", due is " + want);
        }
    }

    static void is(String call, boolean got, boolean want) {
        is(call, got ? 1 : 0, want ? 1 : 0);
    }

    /** All of now() in one line, those that a test names: 'what=answer' apart by blanks. */
    static void now(SpanCopier x, String answers) {
        for (String one : answers.split(" ")) {
            String[] sides = one.split("=");
            is("now(" + sides[0] + ") in [" + answers + "]", x.now(Integer.parseInt(sides[0])),
                    Integer.parseInt(sides[1]));
        }
    }

    /** unit(k, 0), unit(k, 1), .. as far as answers are given. */
    static void unit(SpanCopier x, int k, int... answers) {
        for (int what = 0; what < answers.length; what++) {
            is("unit(" + k + ", " + what + ")", unitOrThrows(x, k, what), answers[what]);
        }
    }

    static final int THROWS = Integer.MIN_VALUE;

    static int unitOrThrows(SpanCopier x, int k, int what) {
        try {
            return x.unit(k, what);
        } catch (NoSuchElementException e) {
            return THROWS;
        }
    }

    static int sumOrThrows(SpanCopier x, int what) {
        try {
            return x.sum(what);
        } catch (NoSuchElementException e) {
            return THROWS;
        }
    }

    /** The text is all that is on the tape then. */
    static void put(SpanCopier x, String text) {
        x.end(0);
        for (int[] n : TextMaker.numbers(text)) {
            x.feed(n[0], n[1], n[2], n[3], n[4]);
        }
        is("end of a text of " + text.length(), x.end(text.length()), true);
    }

    static int order(SpanCopier x, String text) {
        put(x, text);
        return x.order();
    }

    static int sentence(SpanCopier x, String text) {
        put(x, text);
        return x.sentence();
    }

    static int book(SpanCopier x, String text, int lives) {
        put(x, text);
        return x.book(lives);
    }

    /** A FILE of the bytes 1, 2, .. */
    static int file(SpanCopier x, int many) {
        StringBuilder b = new StringBuilder();
        for (int i = 1; i <= many; i++) {
            b.append((char) (i & 255));
        }
        put(x, b.toString());
        return x.file();
    }

    static SpanCopier with(String order, int many) {
        SpanCopier x = new SpanCopier();
        int lines = 0;
        for (char c : order.toCharArray()) {
            lines += c == ';' ? 1 : 0;
        }
        is("order() of " + order, order(x, order), lines);
        is("file() of " + many, file(x, many), many);
        return x;
    }

    static String blanks(int many) {
        StringBuilder b = new StringBuilder();
        for (int i = 0; i < many; i++) {
            b.append(' ');
        }
        return b.toString();
    }

    static String times(String text, int many) {
        StringBuilder b = new StringBuilder();
        for (int i = 0; i < many; i++) {
            b.append(text);
        }
        return b.toString();
    }

    static void end() {
        if (wrong > 0) {
            System.out.println(wrong + " answers are not as due");
            System.exit(1);
        }
    }
}
