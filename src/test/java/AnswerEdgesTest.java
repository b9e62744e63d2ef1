import java.util.Random;

/** The edges that promises 15 to 35 and part 3 of the Terms name, sentence by sentence. */
public final class AnswerEdgesTest {
    private static final int MIN = Integer.MIN_VALUE;
    private static final int MAX = Integer.MAX_VALUE;
    private static final String STORMY = "chunk 3;delay 3;wait 7;tries 2;save 4;policy now;has a;to b;"
            + "act make c;act move c d;act drop a;act copy d a;";

    public static void main(String[] args) {
        now();
        nowWithoutFile();
        nowCode();
        unit();
        unitTicks();
        span();
        gap();
        resend();
        taken();
        sum();
        store();
        journal();
        need();
        overNow();
        overOfOneThatWaits();
        overNever();
        overThreeThousand();
        overBeyondTheLastTick();
        overChangesNothing();
        overAs();
        drawn();
        drawnOneByOne();
        drawnAtTheEnd();
        odds();
        oddsOfSeeds();
        bookLives();
        bookWrong();
        told();
        toldTicks();
        said();
        saidOfForty();
        saidEdges();
        image();
        restore();
        restoreLeaves();
        count();
        Check.end();
    }

    /** Under way: DATA of 8 to 12 (comes at once), DATA of 12 to 16, a PROMPT; 0 to 4 lack, END is 8. */
    private static SpanCopier busy() {
        SpanCopier x = Check.with("chunk 4;delay 2;has a;act make b;", 20);
        Check.sentence(x, "data");
        x.ticks(1);
        x.lose(0);
        x.ticks(3);
        x.prompt();
        Check.now(x, "0=4 3=3 2=1 6=8 4=1");
        return x;
    }

    private static void now() {
        Check.says("11 how long the FILE is (0 without). NONE for another what.");
        SpanCopier x = busy();
        for (int what : new int[] {-1, 12, 13, MIN, MAX}) {
            Check.refused(x, "now(" + what + ")", () -> x.now(what), -1);
        }
        Check.now(x, "0=4 1=1 2=1 3=3 4=1 5=0 6=8 7=16 8=-1 9=0 10=5 11=20");
    }

    private static void nowWithoutFile() {
        SpanCopier x = new SpanCopier();
        Check.now(x, "0=0 1=0 2=0 3=0 4=0 5=0 6=0 7=0 8=-1 9=0 10=0 11=0");
        x.ticks(60);
        Check.now(x, "0=60 1=0 2=0 3=0 4=0 5=0 6=0 7=0 8=-1 9=0 10=0 11=0");
        Check.file(x, 240);
        Check.now(x, "0=0 11=240");
        Check.order(x, "");
        Check.now(x, "11=0");
    }

    private static void nowCode() {
        Check.says("8 the CODE of FIN (NONE: none yet)");
        for (int code = 0; code < 3; code++) {
            SpanCopier x = Check.with("delay 1;wait 2;tries 1;", 1);
            x.ticks(1);
            if (code == 1) {
                x.spoil(0);
            }
            if (code == 2) {
                x.lose(0);
            }
            x.ticks(2);
            Check.is("CODE ahead", x.now(8), code == 1 ? 1 : -1);
            x.ticks(1);
            Check.is("CODE", x.now(8), code);
            x.ticks(30);
            Check.is("CODE then", x.now(8), code);
            Check.is("the TAKER", x.now(2), code == 0 ? 4 : 5);
        }
    }

    private static void unit() {
        Check.says("NoSuchElementException: no such ones.");
        SpanCopier x = busy();
        for (int k : new int[] {-1, 3, 39, 40, MIN, MAX}) {
            for (int what : new int[] {0, 5, -1, 6}) {
                Check.refused(x, "unit(" + k + ", " + what + ")", () -> Check.unitOrThrows(x, k, what), Check.THROWS);
            }
        }
        for (int what : new int[] {-1, 6, 7, MIN, MAX}) {
            Check.refused(x, "unit(0, " + what + ")", () -> Check.unitOrThrows(x, 0, what), Check.THROWS);
        }
        Check.unit(x, 0, 0, 0, 0, 8, 4, 0);
        Check.unit(x, 1, 0, 0, 1, 12, 4, 0);
        Check.unit(x, 2, 6, 0, 2, 0, 0, 0);
        SpanCopier y = new SpanCopier();
        Check.refused(y, "unit(0, 0) of none", () -> Check.unitOrThrows(y, 0, 0), Check.THROWS);
        Check.says("A call that throws changes nothing.");
        Check.is("undo()", x.undo(), 4);
    }

    private static void unitTicks() {
        Check.says("2 TICKS that go ahead of the one in which it comes");
        SpanCopier x = Check.with("delay 9;wait 60;", 1);
        x.ticks(1);
        for (int ahead = 8; ahead >= 0; ahead--) {
            Check.is("unit(0, 2)", Check.unitOrThrows(x, 0, 2), ahead);
            Check.now(x, "2=0");
            x.ticks(1);
        }
        Check.now(x, "2=1");
        Check.unit(x, 0, 1, 0, 0, 1, 0, 0);
    }

    private static void span() {
        Check.says("Of SPAN i of a NAK that is UNIT k: 0 from, 1 to; NONE: no such ones.");
        SpanCopier x = busy();
        for (int k = -1; k < 5; k++) {
            for (int i = -1; i < 3; i++) {
                int unit = k;
                int which = i;
                Check.refused(x, "span() of what is no NAK", () -> x.span(unit, which, 0), -1);
                Check.refused(x, "span() of what is no NAK", () -> x.span(unit, which, 1), -1);
            }
        }
        // EOF comes in TICK 7; then: NAK of 0 to 4, ACK of EOF.
        x.ticks(2);
        x.lose(x.now(3) - 1);
        Check.now(x, "0=6");
        SpanCopier y = Check.with("chunk 4;delay 1;wait 60;", 20);
        y.ticks(1);
        y.lose(0);
        y.ticks(2);
        y.lose(0);
        y.ticks(4);
        Check.unit(y, 0, 2, 1, 0, 2, 0, 0);
        Check.is("span(0, 0, 0)", y.span(0, 0, 0), 0);
        Check.is("span(0, 0, 1)", y.span(0, 0, 1), 4);
        Check.is("span(0, 1, 0)", y.span(0, 1, 0), 8);
        Check.is("span(0, 1, 1)", y.span(0, 1, 1), 12);
        int[][] none = {{0, 2, 0}, {0, 7, 0}, {0, 8, 0}, {0, -1, 0}, {0, 0, 2}, {0, 0, -1}, {1, 0, 0}, {2, 0, 0},
            {-1, 0, 0}, {MIN, 0, 0}, {MAX, 0, 0}, {0, MIN, 0}, {0, MAX, 0}, {0, 0, MIN}, {0, 0, MAX}};
        for (int[] n : none) {
            Check.refused(y, "span(" + n[0] + ", " + n[1] + ", " + n[2] + ")", () -> y.span(n[0], n[1], n[2]), -1);
        }
        SpanCopier z = Check.with("chunk 32;delay 1;wait 60;", 240);
        for (int i = 0; i < 8; i++) {
            z.ticks(1);
            z.lose(0);
        }
        z.ticks(2);
        Check.is("span(0, 0, 0) of all", z.span(0, 0, 0), 0);
        Check.is("span(0, 0, 1) of all", z.span(0, 0, 1), 240);
    }

    private static void gap() {
        Check.says("Of GAP k: 0 from, 1 to; NONE: no such ones.");
        SpanCopier x = busy();
        Check.is("gap(0, 0)", x.gap(0, 0), 0);
        Check.is("gap(0, 1)", x.gap(0, 1), 4);
        int[][] none = {{1, 0}, {-1, 0}, {0, 2}, {0, -1}, {MIN, 0}, {MAX, 0}, {0, MIN}, {0, MAX}, {240, 0}};
        for (int[] n : none) {
            Check.refused(x, "gap(" + n[0] + ", " + n[1] + ")", () -> x.gap(n[0], n[1]), -1);
        }
        SpanCopier y = Check.with("chunk 1;delay 1;wait 60;", 240);
        for (int i = 0; i < 240; i++) {
            y.ticks(1);
            if (i % 2 == 1) {
                y.lose(0);
            }
        }
        y.ticks(2);
        Check.now(y, "4=120 6=240");
        Check.is("gap(0, 0)", y.gap(0, 0), 1);
        Check.is("gap(119, 0)", y.gap(119, 0), 239);
        Check.is("gap(119, 1)", y.gap(119, 1), 240);
        Check.is("gap(120, 0)", y.gap(120, 0), -1);
    }

    private static void resend() {
        Check.says("Of RESEND k: 0 from, 1 to; NONE: no such ones.");
        SpanCopier x = Check.with("chunk 1;delay 1;wait 60;", 7);
        for (int i = 0; i < 7; i++) {
            x.ticks(1);
            if (i % 2 == 0) {
                x.lose(0);
            }
        }
        x.ticks(2);
        Check.refused(x, "resend(0, 0) of none", () -> x.resend(0, 0), -1);
        x.ticks(1);
        Check.now(x, "5=3");
        for (int k = 0; k < 3; k++) {
            Check.is("resend(" + k + ", 0)", x.resend(k, 0), 2 * k + 2);
            Check.is("resend(" + k + ", 1)", x.resend(k, 1), 2 * k + 3);
        }
        int[][] none = {{3, 0}, {3, 1}, {-1, 0}, {0, 2}, {0, -1}, {MIN, 0}, {MAX, 0}, {0, MIN}, {0, MAX}};
        for (int[] n : none) {
            Check.refused(x, "resend(" + n[0] + ", " + n[1] + ")", () -> x.resend(n[0], n[1]), -1);
        }
        // Two of what is left are undone: the RESENDS of then are there again.
        x.ticks(1);
        x.ticks(1);
        Check.now(x, "5=1");
        x.undo();
        x.undo();
        Check.now(x, "5=3");
        Check.is("resend(0, 0)", x.resend(0, 0), 2);
    }

    private static void taken() {
        Check.says("The byte that the TAKER has at place i; NONE: none.");
        SpanCopier x = busy();
        for (int i : new int[] {-1, 0, 3, 8, 19, 20, 239, 240, 241, MIN, MAX}) {
            Check.refused(x, "taken(" + i + ")", () -> x.taken(i), -1);
        }
        Check.is("taken(4)", x.taken(4), 5);
        Check.is("taken(7)", x.taken(7), 8);
        SpanCopier y = new SpanCopier();
        Check.is("taken(0) of none", y.taken(0), -1);
        Check.order(y, "chunk 32;delay 1;");
        Check.file(y, 240);
        y.ticks(9);
        Check.is("taken(0)", y.taken(0), 1);
        Check.is("taken(239)", y.taken(239), 240);
        Check.is("taken(240)", y.taken(240), -1);
        y.crash();
        Check.is("taken(239) of what is SAVED", y.taken(239), 240);
        Check.file(y, 240);
        Check.is("taken(0) behind a new FILE", y.taken(0), -1);
    }

    private static void sum() {
        Check.says("The SUM of the FILE (0), of the bytes that the TAKER has, at their places (1)."
                + " NoSuchElementException: another what.");
        SpanCopier x = busy();
        for (int what : new int[] {-1, 2, 3, MIN, MAX}) {
            Check.refused(x, "sum(" + what + ")", () -> Check.sumOrThrows(x, what), Check.THROWS);
        }
        Check.is("undo()", x.undo(), 4);
        Check.is("sum(0)", x.sum(0), 0x01020304 + 0x05060708 + 0x090a0b0c + 0x0d0e0f10 + 0x11121314);
        Check.is("sum(1)", x.sum(1), 0x05060708);
        SpanCopier y = new SpanCopier();
        Check.is("sum(0) without a FILE", y.sum(0), 0);
        Check.is("sum(1) without a FILE", y.sum(1), 0);
        Check.order(y, "chunk 3;delay 1;");
        Check.file(y, 7);
        y.ticks(1);
        y.lose(0);
        y.ticks(2);
        Check.is("sum(1) of places 3 to 6", y.sum(1), 4 + (5 << 24) + (6 << 16));
        Check.order(y, "");
        Check.is("sum(0) behind an ORDER", y.sum(0), 0);
        Check.is("sum(1) behind an ORDER", y.sum(1), 0);
    }

    private static void store() {
        Check.says("NAMES that are in the STORE, as bits.");
        SpanCopier x = new SpanCopier();
        Check.is("store()", x.store(), 0);
        Check.order(x, "has a;has b;has c;has d;has e;has f;has g;has h;has i;has j;");
        Check.is("store() of ten", x.store(), 1023);
        Check.order(x, "act move a b;act move c d;act move e f;act move g h;act move i j;delay 1;has j;");
        Check.is("store() of the tenth", x.store(), 512);
        Check.order(x, "delay 1;has a;has b;has c;has d;has e;has f;has g;has h;has i;to j;act drop j;act drop a;");
        Check.file(x, 1);
        Check.is("store() of nine", x.store(), 511);
        x.ticks(4);
        Check.is("store() with the tenth", x.store(), 1023);
        x.ticks(1);
        Check.is("store() without the tenth", x.store(), 511);
        x.ticks(1);
        Check.is("store() without the first", x.store(), 510);
    }

    private static void journal() {
        Check.says("How ACT k went by the JOURNAL (0 to 2); NONE: it is not there, no such one.");
        SpanCopier x = Check.with("delay 1;wait 60;act make a;act make b;act make b;act make c;act make d;act make e;", 1);
        for (int k : new int[] {-1, 0, 5, 6, MIN, MAX}) {
            Check.refused(x, "journal(" + k + ")", () -> x.journal(k), -1);
        }
        int[] due = {0, 0, 1, 2, 2, 2};
        x.ticks(3);
        for (int k = 0; k < 6; k++) {
            Check.is("journal(" + k + ") ahead", x.journal(k), -1);
            x.ticks(1);
            Check.is("journal(" + k + ")", x.journal(k), due[k]);
        }
        Check.is("journal(6)", x.journal(6), -1);
        Check.is("journal(-1)", x.journal(-1), -1);
        Check.is("journal(MAX)", x.journal(MAX), -1);
        Check.is("journal(MIN)", x.journal(MIN), -1);
        for (int k = 5; k > 2; k--) {
            x.undo();
            Check.is("undone", x.journal(k), -1);
            Check.is("not undone", x.journal(k - 1), due[k - 1]);
        }
        x.ticks(1);
        Check.is("once more", x.journal(3), 2);
    }

    private static void need() {
        Check.says("'chunk' by 'chunk' of each SPAN of what the TAKER has not (of the whole FILE)");
        for (int chunk : new int[] {1, 2, 7, 31, 32}) {
            for (int many : new int[] {1, 2, 31, 32, 33, 63, 64, 65, 239, 240}) {
                SpanCopier x = Check.with("delay 1;chunk " + chunk + ";", many);
                Check.is("need() of " + many + " by " + chunk, x.need(), (many + chunk - 1) / chunk);
                x.ticks(1);
                Check.is("what is under way is not there", x.need(), (many + chunk - 1) / chunk);
                x.ticks(1);
                Check.is("need() behind one", x.need(), (many + chunk - 1) / chunk - 1);
            }
        }
        SpanCopier x = Check.with("chunk 4;delay 1;wait 60;", 11);
        x.ticks(1);
        x.lose(0);
        x.ticks(2);
        Check.is("need() of 0 to 4 and 8 to 11", x.need(), 2);
        x.ticks(1);
        Check.is("need() of 0 to 4", x.need(), 1);
        Check.says("NEED: how many; NONE: there is no FILE.");
        SpanCopier y = new SpanCopier();
        Check.refused(y, "need() of no FILE", y::need, -1);
        Check.file(y, 1);
        Check.is("need()", y.need(), 1);
        y.ticks(20);
        Check.is("need() of none", y.need(), 0);
        y.undo();
        y.undo();
        Check.is("need() behind undo() of the FILE", y.need(), -1);
    }

    private static void overNow() {
        Check.says("OVER: TICKS (0: they are); NONE: not in 3000, there is no FILE.");
        SpanCopier x = new SpanCopier();
        Check.refused(x, "over() of no FILE", x::over, -1);
        x.ticks(3);
        Check.refused(x, "over() of no FILE", x::over, -1);
        SpanCopier y = Check.with("delay 1;wait 60;", 1);
        for (int left = 6; left > 0; left--) {
            Check.is("over()", y.over(), left);
            y.ticks(1);
        }
        Check.now(y, "1=4 2=4");
        Check.is("over() then", y.over(), 0);
        y.ticks(60);
        Check.is("over() later", y.over(), 0);
        // One end alone: the SENDER is FAILED, the TAKER goes on by itself.
        SpanCopier z = Check.with("delay 1;wait 5;tries 2;", 1);
        z.ticks(1);
        z.lose(0);
        z.ticks(2);
        z.lose(0);
        z.lose(0);
        z.ticks(4);
        z.lose(z.now(3) - 1);
        z.lose(0);
        Check.now(z, "0=7 1=2 2=1 3=0");
        // NAKS in TICKS 2 and 6, CODE 2 in TICK 11; the SENDER is FAILED in TICK 11; FIN in TICK 12.
        Check.is("over() of a TAKER that waits", z.over(), 7);
        Check.is("overAs(0)", z.overAs(0), 5);
        Check.is("overAs(1)", z.overAs(1), 5);
        z.ticks(5);
        Check.now(z, "0=12 1=5 2=3 3=1");
        z.lose(0);
        // FIN once more in TICK 16, answered in TICK 17, over in TICK 18.
        Check.is("over() of a TAKER that is FINISHING", z.over(), 7);
        z.ticks(4);
        Check.now(z, "0=16 3=0 2=3");
        Check.is("over()", z.over(), 3);
        z.ticks(1);
        z.lose(0);
        Check.is("over() without an answer", z.over(), 5);
        Check.is("overAs(1)", z.overAs(1), 5);
    }

    /** The SENDER is FAILED in TICK 8; DATA came in TICK 5, so that the TAKER asks in TICK 9, gives up in 14. */
    private static void overOfOneThatWaits() {
        for (String policy : new String[] {"end", "now", "asked"}) {
            SpanCopier x = Check.with("chunk 1;delay 1;wait 5;tries 1;policy " + policy + ";", 3);
            x.ticks(1);
            x.late(0, 4);
            x.ticks(1);
            x.lose(1);
            x.ticks(1);
            x.lose(1);
            x.ticks(2);
            // EOF came in TICK 4.
            Check.is("EOF is known", x.now(9), 1);
            while (x.now(3) > 1) {
                x.lose(1);
            }
            x.ticks(4);
            while (x.now(3) > 0) {
                x.lose(0);
            }
            Check.now(x, "0=9 1=5 2=1 4=1 3=0");
            // NAK in TICK 9, CODE 2 in TICK 14, FIN answered in TICK 15, over behind TICK 16.
            Check.is("over() of a TAKER that waits, by " + policy, x.over(), policy.equals("asked") ? -1 : 8);
        }
    }

    private static void overNever() {
        Check.says("(a TAKER that is IDLE is not)");
        SpanCopier x = Check.with("delay 1;wait 1;tries 1;", 1);
        x.ticks(1);
        x.lose(0);
        x.ticks(1);
        x.lose(0);
        Check.is("over() with an IDLE TAKER", x.over(), -1);
        x.ticks(1);
        Check.now(x, "1=5 2=0");
        Check.is("over() of FAILED and IDLE", x.over(), -1);
        Check.is("overAs(0) ahead of any", x.overAs(0), -1);
        SpanCopier y = Check.with("delay 1;wait 2;tries 1;save 60;", 1);
        y.ticks(5);
        Check.now(y, "1=4 2=3");
        y.crash();
        Check.is("over() of DONE and IDLE", y.over(), -1);
        SpanCopier z = Check.with("chunk 1;delay 1;wait 2;tries 1;", 2);
        z.ticks(2);
        z.ticks(1);
        z.lose(0);
        z.lose(0);
        Check.now(z, "2=1 9=0");
        Check.is("over() of a TAKER that knows no EOF", z.over(), -1);
    }

    /** DATA that comes behind n TICKS: ACTING in that one, FIN in the next, answered two TICKS on. */
    private static void overThreeThousand() {
        Check.says("NONE: not in 3000");
        SpanCopier x = Check.with("chunk 1;delay 1;wait 60;tries 1;policy asked;", 2);
        x.ticks(1);
        for (int i = 0; i < 49; i++) {
            x.late(0, 60);
        }
        x.ticks(3);
        x.late(0, 60 - 3);
        x.lose(1);
        Check.unit(x, 0, 0, 0, 2994);
        Check.is("over()", x.over(), 2998);
        x.late(0, 1);
        Check.is("over()", x.over(), 2999);
        x.late(0, 1);
        Check.is("over()", x.over(), 3000);
        Check.is("overAs(2)", x.overAs(2), 6);
        x.late(0, 1);
        Check.is("over()", x.over(), -1);
        Check.is("overAs(0) of the one ahead", x.overAs(0), 5);
        Check.is("overAs(1) of the one ahead", x.overAs(1), 4);
        x.ticks(1);
        Check.is("over()", x.over(), 3000);
    }

    private static void overBeyondTheLastTick() {
        Check.says("if nothing is done to UNITS (TICK 2000 no matter)");
        SpanCopier x = Check.with("chunk 1;delay 1;wait 60;tries 9;policy asked;", 1);
        x.ticks(1);
        for (int i = 0; i < 34; i++) {
            x.late(0, 60);
        }
        Check.unit(x, 0, 0, 0, 2040);
        // PATIENCE ends long ahead of that: the SENDER is FAILED.
        Check.is("over()", x.over(), 2044);
        for (int i = 0; i < 33; i++) {
            x.ticks(60);
        }
        Check.is("ticks(60)", x.ticks(60), 19);
        Check.now(x, "0=2000 1=5 2=1 3=1");
        Check.is("over() at 2000", x.over(), 45);
        Check.now(x, "0=2000 2=1");
    }

    private static void overChangesNothing() {
        Check.says("if nothing is done to UNITS");
        for (int seed = 0; seed < 10; seed++) {
            SpanCopier x = Check.with(STORMY, 60);
            x.drawn(10 + seed, seed);
            String before = Check.world(x);
            int ticks = x.over();
            Check.same("behind over()", Check.world(x), before);
            x.odds(20, seed);
            Check.same("behind odds()", Check.world(x), before);
            for (int i = 0; i < ticks; i++) {
                Check.is("not over yet", x.now(1) >= 4 && x.now(2) >= 4, false);
                x.ticks(1);
            }
            if (ticks >= 0) {
                Check.is("overAs(0)", x.overAs(0), x.now(1));
                Check.is("overAs(1)", x.overAs(1), x.now(2));
                Check.is("overAs(2)", x.overAs(2), x.now(10));
            }
        }
    }

    private static void overAs() {
        Check.says("by the latest over() that was not NONE; NONE: another what, or ahead of any.");
        SpanCopier x = new SpanCopier();
        for (int what : new int[] {0, 1, 2, 3, -1, MIN, MAX}) {
            Check.refused(x, "overAs(" + what + ") ahead of any", () -> x.overAs(what), -1);
        }
        x.over();
        Check.is("overAs(0) behind NONE", x.overAs(0), -1);
        Check.order(x, "delay 1;wait 60;");
        Check.file(x, 1);
        x.over();
        for (int what : new int[] {3, 4, -1, MIN, MAX}) {
            Check.refused(x, "overAs(" + what + ")", () -> x.overAs(what), -1);
        }
        Check.is("overAs(0)", x.overAs(0), 4);
        Check.is("overAs(1)", x.overAs(1), 4);
        Check.is("overAs(2)", x.overAs(2), 5);
        Check.order(x, "");
        x.over();
        x.undo();
        Check.is("overAs(2) stays", x.overAs(2), 5);
    }

    private static void drawn() {
        Check.says("n (1 to 60) TICKS DRAWN by a seed: how many went by; NONE: not as told.");
        SpanCopier x = busy();
        for (int n : new int[] {0, -1, 61, MIN, MAX}) {
            for (int seed : new int[] {0, -1, MIN, MAX}) {
                Check.refused(x, "drawn(" + n + ", " + seed + ")", () -> x.drawn(n, seed), -1);
            }
        }
        Check.is("drawn(1, 0)", x.drawn(1, 0), 1);
        Check.is("drawn(60, MIN)", x.drawn(60, MIN), 60);
        Check.now(x, "0=65");
        SpanCopier y = new SpanCopier();
        Check.is("drawn(60, MAX) without a FILE", y.drawn(60, MAX), 60);
        Check.now(y, "0=60 1=0 2=0 3=0");
    }

    private static int draw(int[] seed, int n) {
        seed[0] = seed[0] * 1103515245 + 12345;
        return (seed[0] >>> 8) % n;
    }

    /** One TICK by hand; each of the kinds of draws, with the second draw, is marked as seen. */
    private static void byHand(SpanCopier y, int seed, boolean[] seen) {
        int[] s = {seed};
        int what = draw(s, 12);
        int units = y.now(3);
        if (what < 4 && units > 0) {
            int k = draw(s, units);
            seen[k == 0 ? 20 + what : k == units - 1 ? 30 + what : what] = true;
            switch (what) {
                case 2: y.twice(k); break;
                case 3:
                    int late = draw(s, 20) + 1;
                    seen[40 + late] = true;
                    y.late(k, late);
                    break;
                default: y.lose(k); break;
            }
        } else if (what == 4) {
            int crash = draw(s, 8);
            seen[70 + crash] = true;
            if (crash == 0) {
                y.crash();
            }
        } else {
            seen[10 + what] = true;
        }
        y.ticks(1);
    }

    private static void drawnOneByOne() {
        Check.says("each TICK: a draw of 12: 0 or 1: if UNITS are under way, a draw of all: it is LOST; 2: likewise: it"
                + " is there TWICE; 3: likewise, and a draw of 20 (and 1): it is LATE by that; 4: a draw of 8: 0: a CRASH"
                + " (each, if it can be); then the TICK.");
        boolean[] seen = new boolean[100];
        for (int kind = 0; kind < 4; kind++) {
            SpanCopier x = drawable(kind);
            SpanCopier y = drawable(kind);
            x.image(0);
            y.image(0);
            Random random = new Random(kind);
            for (int i = 0; i < 1000; i++) {
                int wide = random.nextInt();
                x.restore(0);
                y.restore(0);
                x.drawn(1, wide);
                byHand(y, wide, seen);
                Check.same("a TICK DRAWN by " + wide + " in " + kind, now(x), now(y));
            }
        }
        for (int what = 0; what < 4; what++) {
            Check.is("the first UNIT was drawn for " + what, seen[20 + what], true);
            Check.is("the last UNIT was drawn for " + what, seen[30 + what], true);
            Check.is("none was there for " + what, seen[10 + what], true);
        }
        for (int what = 5; what < 12; what++) {
            Check.is("nothing was done by " + what, seen[10 + what], true);
        }
        for (int late = 1; late <= 20; late++) {
            Check.is("LATE by " + late, seen[40 + late], true);
        }
        for (int crash = 0; crash < 8; crash++) {
            Check.is("a draw of 8: " + crash, seen[70 + crash], true);
        }
    }

    /** 0: no UNITS, 1: three of them and a TAKER that can crash, 2: forty, 3: one. */
    private static SpanCopier drawable(int kind) {
        if (kind == 0) {
            return new SpanCopier();
        }
        if (kind == 1) {
            SpanCopier x = Check.with("chunk 4;delay 3;save 60;", 40);
            x.ticks(8);
            return x;
        }
        SpanCopier x = Check.with("chunk 1;delay 9;", 60);
        x.ticks(kind == 2 ? 5 : 1);
        while (kind == 2 && x.twice(1) == 0) {
            Check.now(x, "0=5");
        }
        return x;
    }

    private static String now(SpanCopier x) {
        StringBuilder b = new StringBuilder();
        for (int what = 0; what < 12; what++) {
            b.append(x.now(what)).append(' ');
        }
        for (int k = 0; k < x.now(3); k++) {
            b.append(Check.unitOrThrows(x, k, 2)).append('/').append(Check.unitOrThrows(x, k, 3)).append(' ');
        }
        return b.toString();
    }

    private static void drawnAtTheEnd() {
        Check.says("(0 to 1999; 2000: all are over)");
        SpanCopier x = new SpanCopier();
        for (int i = 0; i < 33; i++) {
            Check.is("drawn(60, 3)", x.drawn(60, 3), 60);
        }
        Check.is("drawn(19, 3)", x.drawn(19, 3), 19);
        Check.is("drawn(2, 3)", x.drawn(2, 3), 1);
        Check.is("drawn(1, 3)", x.drawn(1, 3), 0);
        Check.is("drawn(0, 3)", x.drawn(0, 3), -1);
        Check.is("undo()", x.undo(), 7);
        Check.now(x, "0=1999");
    }

    private static void odds() {
        Check.says("Of n (1 to 20) seeds x, x and 1, .. by how many both ends are DONE behind 300 TICKS DRAWN from now on;"
                + " NONE: not as told, there is no FILE.");
        SpanCopier none = new SpanCopier();
        for (int n : new int[] {0, 1, 20, 21}) {
            Check.refused(none, "odds() of no FILE", () -> none.odds(n, 1), -1);
        }
        SpanCopier x = busy();
        for (int n : new int[] {0, -1, 21, MIN, MAX}) {
            for (int seed : new int[] {0, -1, MIN, MAX}) {
                Check.refused(x, "odds(" + n + ", " + seed + ")", () -> x.odds(n, seed), -1);
            }
        }
        x.ticks(60);
        Check.now(x, "1=4 2=4");
        Check.is("odds(1, MIN) of DONE", x.odds(1, MIN), 1);
        Check.is("odds(20, MAX) of DONE", x.odds(20, MAX), 20);
        SpanCopier y = Check.with("delay 9;wait 1;tries 1;", 1);
        y.ticks(3);
        Check.is("odds(20, 0) of FAILED", y.odds(20, 0), 0);
        x.undo();
        x.undo();
        Check.is("undo()", x.undo(), 3);
    }

    private static void oddsOfSeeds() {
        Check.says("seeds x, x and 1, ..");
        SpanCopier x = Check.with("chunk 2;delay 2;wait 9;", 60);
        for (int first : new int[] {0, -10, MAX - 5, MIN, MAX}) {
            int all = 0;
            for (int i = 0; i < 20; i++) {
                all += x.odds(1, first + i);
                Check.is("odds(" + (i + 1) + ", " + first + ")", x.odds(i + 1, first), all);
            }
            Check.is("some are, some are not", all > 0 && all < 20, true);
        }
    }

    private static void bookLives() {
        Check.says("-1000: another lives (the tape stays)");
        SpanCopier x = busy();
        Check.put(x, "tick 1;lose 0;tick 9;");
        for (int lives : new int[] {-1, 2, 3, MIN, MAX}) {
            Check.refused(x, "book(" + lives + ")", () -> x.book(lives), -1000);
        }
        Check.is("count(8)", x.count(8), 21);
        Check.says("it is judged, all staying as it is (lives 0), or lived as far as it is not WRONG (1)");
        String before = Check.world(x);
        Check.is("book(0)", x.book(0), -1);
        Check.same("behind book(0)", Check.world(x), before);
        Check.is("the tape is empty", x.count(8), 0);
        Check.is("told(2)", x.told(2), 14);
        Check.is("book(1)", Check.book(x, "tick 1;lose 0;tick 9;", 1), -1);
        Check.now(x, "0=14");
        Check.is("book(1) of none", Check.book(x, "", 1), -1);
        Check.now(x, "0=14");
        Check.is("undo() of the one that was lived", x.undo(), 5);
        Check.now(x, "0=4");
    }

    private static void bookWrong() {
        Check.says("the LINE that is WRONG; NONE: none");
        for (int ahead = 0; ahead <= 39; ahead++) {
            SpanCopier x = Check.with("chunk 4;delay 2;", 20);
            String text = Check.times("tick 1;", ahead) + "lose 39;" + Check.times("tick 1;", 39 - ahead);
            Check.is("judged", Check.book(x, text, 0), ahead);
            Check.now(x, "0=0");
            Check.is("told(1)", x.told(1), ahead);
            Check.is("lived", Check.book(x, text, 1), ahead);
            Check.is("TICKS", x.now(0), ahead);
            Check.is("undo()", x.undo(), ahead == 0 ? 0 : 1);
            Check.now(x, "0=0");
        }
    }

    private static void told(SpanCopier x, String text, int... due) {
        for (int lives = 0; lives < 2; lives++) {
            x.image(0);
            Check.book(x, text, lives);
            for (int what = 0; what < 4; what++) {
                Check.is("told(" + what + ") of " + text, x.told(what), due[what]);
            }
            Check.is("the TICK behind " + text, x.now(0) == due[2] || lives == 0, true);
            x.restore(0);
        }
    }

    private static void told() {
        Check.says("0 why it was WRONG (0: it was not; 9 there is no such UNIT, 11 having it twice, 21, 22 spoiling, 31"
                + " prompting, 41 crashing; 51: fewer TICKS are left), 1 LINES that are not, 2 the TICK then, 3 UNITS"
                + " under way then. NONE: another what, or ahead of any.");
        SpanCopier x = Check.with("chunk 4;delay 2;", 20);
        for (int what : new int[] {0, 1, 2, 3, 4, -1, MIN, MAX}) {
            Check.refused(x, "told(" + what + ") ahead of any", () -> x.told(what), -1);
        }
        Check.book(x, "tick 0;", 0);
        Check.is("told(0) behind a FAULT alone", x.told(0), -1);
        x.book(2);
        Check.is("told(0) behind -1000 alone", x.told(0), -1);
        told(x, "", 0, 0, 0, 0);
        told(x, "tick 1;", 0, 1, 1, 1);
        told(x, "lose 0;", 9, 0, 0, 0);
        told(x, "tick 1;lose 1;", 9, 1, 1, 1);
        told(x, "tick 1;twice 1;", 9, 1, 1, 1);
        told(x, "tick 1;late 1 1;", 9, 1, 1, 1);
        told(x, "tick 1;spoil 1;", 9, 1, 1, 1);
        told(x, "tick 1;lose 0;lose 0;", 9, 2, 1, 0);
        told(x, "tick 1;" + Check.times("twice 0;", 38), 0, 39, 1, 39);
        told(x, "tick 1;" + Check.times("twice 0;", 39), 0, 40, 1, 40);
        told(x, "tick 2;" + Check.times("twice 0;", 39), 11, 39, 2, 40);
        told(x, "prompt;spoil 0;", 21, 1, 0, 1);
        told(x, "tick 1;spoil 0;spoil 0;", 22, 2, 1, 1);
        told(x, "tick 60;prompt;", 31, 1, 60, 0);
        told(x, "crash;", 41, 0, 0, 0);
        told(x, "tick 60;crash;", 41, 1, 60, 0);
        told(x, "tick 3;crash;tick 1;", 0, 3, 4, 2);
        for (int what : new int[] {4, -1, MIN, MAX}) {
            Check.refused(x, "told(" + what + ")", () -> x.told(what), -1);
        }
        Check.book(x, "tick 0;", 0);
        x.book(5);
        x.book(-1);
        Check.order(x, "");
        Check.is("told(1) of the latest without a FAULT", x.told(1), 3);
        Check.is("told(2)", x.told(2), 4);
    }

    private static void toldTicks() {
        Check.says("51: fewer TICKS are left");
        String most = Check.times("tick 60;", 33);
        SpanCopier x = Check.with("chunk 4;delay 2;", 20);
        told(x, most + "tick 20;", 0, 34, 2000, 0);
        told(x, most + "tick 21;", 51, 33, 1980, 0);
        told(x, most + "tick 19;tick 2;", 51, 34, 1999, 0);
        told(x, most + "tick 19;tick 1;", 0, 35, 2000, 0);
        told(x, most + "tick 20;tick 1;", 51, 34, 2000, 0);
        told(x, most + "tick 60;", 51, 33, 1980, 0);
        Check.is("lived", Check.book(x, most + "tick 21;", 1), 33);
        Check.now(x, "0=1980");
        Check.is("lived", Check.book(x, "tick 21;", 1), 0);
        Check.now(x, "0=1980");
        Check.is("lived", Check.book(x, "tick 20;", 1), -1);
        Check.now(x, "0=2000");
    }

    private static void said() {
        Check.says("UNITS of which it may be said: how many (k NONE), or the k-th. NONE: there is no SENTENCE, none such.");
        SpanCopier x = Check.with("chunk 4;delay 2;", 20);
        x.ticks(3);
        x.prompt();
        for (int k : new int[] {-1, 0, 1, -2, MIN, MAX}) {
            Check.refused(x, "said(" + k + ") without a SENTENCE", () -> x.said(k), -1);
        }
        Check.sentence(x, "(");
        Check.is("said(-1) behind a FAULT", x.said(-1), -1);
        Check.sentence(x, "not data");
        Check.is("said(-1)", x.said(-1), 1);
        Check.is("said(0)", x.said(0), 2);
        for (int k : new int[] {1, 2, 3, -2, MIN, MAX}) {
            Check.refused(x, "said(" + k + ")", () -> x.said(k), -1);
        }
        Check.sentence(x, "fin");
        Check.is("said(-1) of none", x.said(-1), 0);
        Check.is("said(0) of none", x.said(0), -1);
        SpanCopier y = new SpanCopier();
        Check.sentence(y, "out");
        Check.is("said(-1) without UNITS", y.said(-1), 0);
        Check.is("said(0) without UNITS", y.said(0), -1);
        Check.file(y, 1);
        y.ticks(1);
        Check.is("said(-1) behind a FILE", y.said(-1), 1);
    }

    private static void saidOfForty() {
        Check.says("It is said of UNITS that are under way.");
        SpanCopier x = Check.with("chunk 4;delay 9;", 20);
        x.ticks(1);
        while (x.twice(0) == 0) {
            x.late(x.now(3) - 1, x.now(3) - 1);
        }
        Check.sentence(x, "out");
        Check.is("said(-1)", x.said(-1), 40);
        Check.is("said(39)", x.said(39), 39);
        Check.is("said(40)", x.said(40), -1);
        Check.sentence(x, "number>38");
        Check.is("said(0)", x.said(0), 39);
        Check.is("said(-1)", x.said(-1), 1);
        Check.sentence(x, "number=40 or number>39");
        Check.is("said(-1)", x.said(-1), 0);
        Check.sentence(x, "ticks=47");
        Check.is("said(0)", x.said(0), 39);
        Check.sentence(x, "ticks>46 or ticks<9");
        Check.is("said(-1)", x.said(-1), 2);
        Check.is("said(1)", x.said(1), 39);
    }

    private static void saidCount(SpanCopier x, String text, int many) {
        Check.sentence(x, text);
        Check.is("fault of " + text, x.fault(), 0);
        Check.is("said(-1) of " + text, x.said(-1), many);
    }

    /** The last UNIT is DATA of 239 to 240; SIGNS at, below and above; the most ONES. */
    private static void saidEdges() {
        Check.says("(of DATA, else 0; likewise; TICKS that go ahead of the one in which it comes; its number)");
        SpanCopier x = Check.with("chunk 1;delay 1;wait 60;", 240);
        for (int i = 0; i < 4; i++) {
            x.ticks(60);
        }
        Check.unit(x, 0, 0, 0, 0, 239, 1, 0);
        saidCount(x, "from=239", 1);
        saidCount(x, "from>238", 1);
        saidCount(x, "from>239", 0);
        saidCount(x, "from<240", 1);
        saidCount(x, "from<239", 0);
        saidCount(x, "many=1 and many>0 and many<2", 1);
        saidCount(x, "ticks=0 and number=0", 1);
        saidCount(x, "ticks<0 or number<0 or many<0 or from<0", 0);
        saidCount(x, "ticks<999 and number<999 and from<999", 1);
        x.ticks(1);
        Check.unit(x, 0, 1, 0, 0, 240);
        saidCount(x, "eof and from=0 and many=0", 1);
        saidCount(x, "from>0 or many>0", 0);
        saidCount(x, "ack or nak or fin or data", 0);
        Check.says("COND: ALL { 'or' ALL }. ALL: ONE { 'and' ONE }.");
        saidCount(x, "data and data or eof", 1);
        saidCount(x, "eof or data and data", 1);
        saidCount(x, "(eof or data) and data", 0);
        saidCount(x, "not data and data", 0);
        saidCount(x, "not (data and data)", 1);
        saidCount(x, "not not not data", 1);
        saidCount(x, "fin" + Check.times(" or fin", 18) + " or eof", 1);
        saidCount(x, "eof" + Check.times(" or fin", 19), 1);
        saidCount(x, "eof" + Check.times(" and eof", 19), 1);
        saidCount(x, "eof" + Check.times(" and eof", 18) + " and fin", 0);
        saidCount(x, "fin" + Check.times(" and eof", 19), 0);
        saidCount(x, Check.times("not ", 7) + "eof", 0);
        saidCount(x, Check.times("(", 7) + "eof" + Check.times(")", 7), 1);
        saidCount(x, "fin or(fin or(fin or(fin or(fin or(fin or(fin or eof))))))", 1);
        saidCount(x, "eof and(eof and(eof and(eof and(eof and(eof and(eof and fin))))))", 0);
    }

    private static void image() {
        Check.says("are kept in place k (0, 1): true; false: no such one.");
        SpanCopier x = busy();
        for (int k : new int[] {-1, 2, 3, MIN, MAX}) {
            Check.refused(x, "image(" + k + ")", () -> x.image(k) ? 1 : 0, 0);
        }
        Check.refused(x, "restore(0) of nothing", () -> x.restore(0) ? 1 : 0, 0);
        Check.refused(x, "restore(1) of nothing", () -> x.restore(1) ? 1 : 0, 0);
        Check.refused(x, "image(1)", () -> x.image(1) ? 1 : 0, 1);
        Check.refused(x, "restore(0) of nothing", () -> x.restore(0) ? 1 : 0, 0);
        x.ticks(1);
        Check.is("image(0)", x.image(0), true);
        Check.is("undo()", x.undo(), 5);
        x.ticks(9);
        Check.is("image(1) again", x.image(1), true);
        x.ticks(1);
        x.restore(0);
        Check.now(x, "0=5");
        x.restore(1);
        Check.now(x, "0=13");
        x.restore(0);
        Check.now(x, "0=5");
    }

    /** Kept, gone on from in another way, brought back: it goes on as one that never left. */
    private static void restore() {
        Check.says("They are as kept in place k (the tape, and what other calls told last, stays; nothing can be undone):"
                + " true; false: no such one, or nothing is kept there.");
        for (int seed = 0; seed < 20; seed++) {
            SpanCopier x = Check.with(STORMY, 60);
            SpanCopier y = Check.with(STORMY, 60);
            Check.sentence(x, "data");
            Check.sentence(y, "data");
            x.drawn(5 + 2 * seed, seed);
            y.drawn(5 + 2 * seed, seed);
            x.image(seed & 1);
            x.drawn(60, seed + 1);
            if (seed % 3 == 0) {
                Check.order(x, "chunk 9;has z;act drop z;");
                Check.file(x, 9);
                x.ticks(30);
            }
            Check.is("restore()", x.restore(seed & 1), true);
            Check.refused(x, "undo() behind restore()", x::undo, -1);
            for (int i = 0; i < 8; i++) {
                Check.same("behind restore()", Check.world(x), Check.world(y));
                Check.is("crash()", x.crash(), y.crash());
                x.ticks(1 + i);
                y.ticks(1 + i);
            }
        }
        SpanCopier x = busy();
        x.image(0);
        for (int k : new int[] {-1, 1, 2, MIN, MAX}) {
            Check.refused(x, "restore(" + k + ")", () -> x.restore(k) ? 1 : 0, 0);
        }
        Check.is("a restore() that is refused forgets nothing", x.undo(), 4);
    }

    private static void restoreLeaves() {
        Check.says("(the tape, and what other calls told last, stays; nothing can be undone)");
        SpanCopier x = busy();
        x.image(0);
        x.over();
        Check.book(x, "tick 2;crash;crash;lose 39;", 0);
        Check.order(x, "chunk 0;");
        x.ticks(5);
        x.feed(1, 2, 3, 4, 5);
        int[] ends = {x.overAs(0), x.overAs(1), x.overAs(2)};
        int[] told = {x.told(0), x.told(1), x.told(2), x.told(3)};
        Check.is("restore(0)", x.restore(0), true);
        for (int what = 0; what < 3; what++) {
            Check.is("overAs(" + what + ")", x.overAs(what), ends[what]);
        }
        for (int what = 0; what < 4; what++) {
            Check.is("told(" + what + ")", x.told(what), told[what]);
        }
        Check.is("fault()", x.fault(), 2);
        Check.is("count(8)", x.count(8), 20);
        Check.is("undo()", x.undo(), -1);
        // An image of no SENTENCE and no FILE brings that back.
        SpanCopier y = new SpanCopier();
        y.image(1);
        Check.order(y, "chunk 9;");
        Check.file(y, 9);
        Check.sentence(y, "data");
        y.restore(1);
        Check.same("a new object", Check.world(y), Check.world(new SpanCopier()));
    }

    private static void count() {
        Check.says("8 bytes of the tape. NONE for another what.");
        SpanCopier x = busy();
        for (int what : new int[] {-1, 9, 10, MIN, MAX}) {
            Check.refused(x, "count(" + what + ")", () -> x.count(what), -1);
        }
        int[] due = {4, 1, 2, 12, 3, 1, 2, 1, 0};
        for (int what = 0; what < due.length; what++) {
            Check.is("count(" + what + ")", x.count(what), due[what]);
        }
        for (int i = 0; i < 47; i++) {
            x.feed(i, i, i, i, i);
        }
        Check.is("count(8)", x.count(8), 940);
    }
}
