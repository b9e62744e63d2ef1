import java.util.NoSuchElementException;
import java.util.Random;

/** Random runs of calls: every answer of SpanCopier is held against the Model's. */
public final class FuzzTest {
    private static final int CALLS = 300;
    private final Random random;
    private final SpanCopier x = new SpanCopier();
    private final Model m = new Model();
    private final StringBuilder log = new StringBuilder();
    private int wrong;

    private FuzzTest(long seed) {
        random = new Random(seed);
    }

    public static void main(String[] args) {
        int runs = args.length > 0 ? Integer.parseInt(args[0]) : 1500;
        for (int seed = 0; seed < runs; seed++) {
            FuzzTest run = new FuzzTest(seed);
            run.go();
            if (run.wrong > 0) {
                System.out.println("seed " + seed + ":\n" + run.log);
                System.exit(1);
            }
        }
        System.out.println(runs + " runs agree with the model");
    }

    private void go() {
        if (random.nextInt(8) > 0) {
            begin();
        }
        for (int i = 0; i < CALLS && wrong == 0; i++) {
            if (x.now(1) >= 4 && x.now(2) >= 4 && random.nextInt(12) == 0) {
                begin();
            }
            if (random.nextInt(40) == 0) {
                storm();
            }
            call();
            observe();
        }
    }

    /** A long FILE in small pieces, of which many are lost or doubled: the link gets full. */
    private void storm() {
        text(TextMaker.stormOrder(random));
        due("order", x.order(), m.order());
        bytes(100 + random.nextInt(141));
        due("file", x.file(), m.file());
        for (int i = 0; i < 40 && wrong == 0; i++) {
            due("ticks 1", x.ticks(1), m.ticks(1));
            int most = random.nextInt(4) == 0 ? 6 : 2;
            for (int j = random.nextInt(most); j > 0; j--) {
                int k = unit();
                switch (random.nextInt(4)) {
                    case 0: due("twice " + k, x.twice(k), m.act(1, k, 0)); break;
                    case 1: due("late " + k, x.late(k, 3), m.act(2, k, 3)); break;
                    default: due("lose " + k, x.lose(k), m.act(0, k, 0)); break;
                }
            }
            if (random.nextInt(20) == 0) {
                for (int j = 0; j < 45; j++) {
                    due("twice 0", x.twice(0), m.act(1, 0, 0));
                }
            }
            observe();
        }
    }

    private void begin() {
        text(TextMaker.order(random));
        due("order", x.order(), m.order());
        bytes(1 + random.nextInt(random.nextBoolean() ? 40 : 240));
        due("file", x.file(), m.file());
    }

    private void due(String call, int got, int want) {
        log.append(call).append(" = ").append(got).append('\n');
        if (got != want) {
            wrong++;
            log.append("   WRONG, due is ").append(want).append('\n');
        }
    }

    private int bit(boolean b) {
        return b ? 1 : 0;
    }

    private int feedBoth(int[] n) {
        int got = x.feed(n[0], n[1], n[2], n[3], n[4]);
        due("feed", got, m.feed(n[0], n[1], n[2], n[3], n[4]));
        return got;
    }

    private void text(String text) {
        log.append("text [").append(text).append("]\n");
        int had = x.count(8);
        for (int[] n : TextMaker.numbers(text)) {
            if (feedBoth(n) == -1) {
                return;
            }
        }
        due("end", bit(x.end(had + text.length())), m.end(had + text.length()));
    }

    private void bytes(int many) {
        StringBuilder b = new StringBuilder();
        for (int i = 0; i < many; i++) {
            b.append((char) random.nextInt(256));
        }
        x.end(0);
        m.end(0);
        text(b.toString());
    }

    private int small(int n) {
        switch (random.nextInt(40)) {
            case 0: return Integer.MIN_VALUE;
            case 1: return Integer.MAX_VALUE;
            case 2: return -1;
            case 3: return n;
            default: return random.nextInt(n);
        }
    }

    private int unit() {
        return small(Math.max(1, x.now(3)));
    }

    private void call() {
        int k = unit();
        int n = random.nextInt(4) == 0 ? small(61) : 1 + random.nextInt(9);
        switch (random.nextInt(30)) {
            case 0: case 1: case 2: case 3: case 4: case 5:
                due("ticks " + n, x.ticks(n), m.ticks(n));
                break;
            case 6: case 7: case 8: due("lose " + k, x.lose(k), m.act(0, k, 0)); break;
            case 9: due("twice " + k, x.twice(k), m.act(1, k, 0)); break;
            case 10: due("late " + k + " " + n, x.late(k, n), m.act(2, k, n)); break;
            case 11: due("spoil " + k, x.spoil(k), m.act(3, k, 0)); break;
            case 12: due("prompt", x.prompt(), m.act(4, 0, 0)); break;
            case 13: due("crash", x.crash(), m.act(5, 0, 0)); break;
            case 14: due("undo", x.undo(), m.undo()); break;
            case 15:
                int seed = random.nextInt();
                due("drawn " + n + " " + seed, x.drawn(n, seed), m.drawn(n, seed));
                break;
            case 16: case 17: case 18:
                text(TextMaker.book(random, x.now(3)));
                int lives = small(2);
                due("book " + lives, x.book(lives), m.book(lives));
                break;
            case 19: case 20:
                text(TextMaker.sentence(random));
                due("sentence", x.sentence(), m.sentence());
                break;
            default: rarer(k); break;
        }
    }

    private void rarer(int k) {
        int seed = random.nextInt();
        switch (random.nextInt(24)) {
            case 0: begin(); break;
            case 1:
                text(TextMaker.order(random));
                due("order", x.order(), m.order());
                break;
            case 2: due("file", x.file(), m.file()); break;
            case 3:
                int[] n = random.ints(5).toArray();
                feedBoth(n);
                break;
            case 4: due("end " + k, bit(x.end(k)), m.end(k)); break;
            case 5: case 6: due("over", x.over(), m.over()); break;
            case 7:
                if (random.nextInt(4) == 0) {
                    int many = small(4);
                    due("odds " + many + " " + seed, x.odds(many, seed), m.odds(many, seed));
                }
                break;
            case 8: case 9:
                int place = small(2);
                due("image " + place, bit(x.image(place)), m.image(place));
                break;
            case 10: case 11:
                int from = small(2);
                due("restore " + from, bit(x.restore(from)), m.restore(from));
                break;
            case 12:
                if (random.nextInt(10) == 0) {
                    for (int i = 0; i < 34; i++) {
                        due("ticks 60", x.ticks(60), m.ticks(60));
                    }
                }
                break;
            default: due("ticks 1", x.ticks(1), m.ticks(1)); break;
        }
    }

    private void observe() {
        for (int i = -1; i < 13; i++) {
            quiet("now " + i, x.now(i), m.now(i));
        }
        for (int i = -1; i < 10; i++) {
            quiet("count " + i, x.count(i), m.count(i));
        }
        for (int i = -2; i < 7; i++) {
            quiet("journal " + i, x.journal(i), m.journal(i));
        }
        quiet("fault", x.fault(), m.fault);
        quiet("store", x.store(), m.store());
        quiet("need", x.need(), m.need());
        for (int i = 0; i < 3; i++) {
            quiet("overAs " + i, x.overAs(i), m.overAs[i]);
        }
        for (int i = 0; i < 4; i++) {
            quiet("told " + i, x.told(i), m.told[i]);
        }
        quiet("sum 0", x.sum(0), m.sum(0));
        quiet("sum 1", x.sum(1), m.sum(1));
        for (int k = -2; k < 41; k++) {
            quiet("said " + k, x.said(k), m.said(k));
        }
        observeUnits();
        observeSpans();
    }

    private void observeUnits() {
        for (int j = 0; j < 6; j++) {
            int k = random.nextInt(10) == 0 ? small(41) : unit();
            for (int what = 0; what < 6; what++) {
                quiet("unit " + k + " " + what, unitOf(k, what), unitDue(k, what));
            }
            int i = small(9);
            int what = small(2);
            quiet("span " + k + " " + i + " " + what, x.span(k, i, what), m.span(k, i, what));
        }
        int what = small(6);
        quiet("unit 0 " + what, unitOf(0, what), unitDue(0, what));
    }

    private int unitOf(int k, int what) {
        try {
            return x.unit(k, what);
        } catch (NoSuchElementException e) {
            return Integer.MIN_VALUE;
        }
    }

    private int unitDue(int k, int what) {
        try {
            return m.unit(k, what);
        } catch (NoSuchElementException e) {
            return Integer.MIN_VALUE;
        }
    }

    private void observeSpans() {
        for (int j = 0; j < 4; j++) {
            int k = small(5);
            int what = small(2);
            quiet("gap " + k + " " + what, x.gap(k, what), Model.edge(m.w.taker.gaps, k, what));
            quiet("resend " + k + " " + what, x.resend(k, what), Model.edge(m.w.resends, k, what));
            int i = small(240);
            quiet("taken " + i, x.taken(i), m.taken(i));
        }
    }

    private void quiet(String call, int got, int want) {
        if (got != want) {
            due(call, got, want);
        }
    }
}
