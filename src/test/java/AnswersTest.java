/** Promises 15 to 28, 30 and 32 to 34: what is answered, tried out, kept. */
public final class AnswersTest {
    private static final int[] FAR = {Integer.MIN_VALUE, Integer.MAX_VALUE};

    public static void main(String[] args) {
        now();
        unit();
        span();
        gapAndResend();
        taken();
        sum();
        storeAndJournal();
        need();
        over();
        overAs();
        drawn();
        drawnByHand();
        odds();
        lastTicks();
        book();
        toldWhy();
        said();
        saidKinds();
        images();
        Check.end();
    }

    private static void now() {
        Check.promise(15);
        SpanCopier x = Check.with("chunk 4;delay 2;", 10);
        for (int what : new int[] {-1, 12, FAR[0], FAR[1]}) {
            Check.is("now(" + what + ")", x.now(what), -1);
        }
        Check.now(x, "0=0 1=1 2=0 3=0 4=0 5=0 6=0 7=0 8=-1 9=0 10=0 11=10");
        x.ticks(1);
        x.lose(0);
        x.ticks(3);
        Check.now(x, "0=4 1=2 2=1 3=2 4=1 5=0 6=8 7=10 8=-1 9=0 10=4 11=10");
        x.ticks(2);
        Check.now(x, "0=6 3=2 4=1 6=10 9=1 10=6");
        x.ticks(2);
        Check.now(x, "0=8 1=3 3=1 10=7 7=10");
        x.ticks(2);
        Check.now(x, "2=2 4=0 3=0");
        x.ticks(1);
        Check.now(x, "2=3 8=0 3=1");
    }

    private static void unit() {
        Check.promise(16);
        SpanCopier x = Check.with("chunk 4;delay 2;", 10);
        Check.unit(x, 0, Check.THROWS);
        x.ticks(1);
        Check.unit(x, 0, 0, 0, 1, 0, 4, 0, Check.THROWS);
        Check.is("unit(0, -1)", Check.unitOrThrows(x, 0, -1), Check.THROWS);
        Check.unit(x, 1, Check.THROWS);
        Check.unit(x, -1, Check.THROWS);
        Check.unit(x, FAR[0], Check.THROWS);
        Check.unit(x, FAR[1], Check.THROWS);
        Check.is("unit(0, MIN)", Check.unitOrThrows(x, 0, FAR[0]), Check.THROWS);
        Check.is("unit(0, MAX)", Check.unitOrThrows(x, 0, FAR[1]), Check.THROWS);
        Check.now(x, "3=1 0=1");
        x.late(0, 60);
        Check.unit(x, 0, 0, 0, 61);
    }

    private static void span() {
        Check.promise(17);
        SpanCopier x = Check.with("chunk 2;delay 1;", 8);
        x.ticks(1);
        x.lose(0);
        x.ticks(2);
        x.lose(0);
        x.ticks(3);
        Check.unit(x, 0, 2, 1, 0, 2, 0, 0);
        int[][] due = {{0, 2}, {4, 6}};
        for (int i = 0; i < 2; i++) {
            Check.is("span(0, " + i + ", 0)", x.span(0, i, 0), due[i][0]);
            Check.is("span(0, " + i + ", 1)", x.span(0, i, 1), due[i][1]);
        }
        Check.is("span(0, 2, 0)", x.span(0, 2, 0), -1);
        Check.is("span(0, -1, 0)", x.span(0, -1, 0), -1);
        Check.is("span(0, 0, 2)", x.span(0, 0, 2), -1);
        Check.is("span(0, 0, -1)", x.span(0, 0, -1), -1);
        Check.is("span of an ACK", x.span(1, 0, 0), -1);
        Check.is("span(2, 0, 0)", x.span(2, 0, 0), -1);
        Check.is("span(-1, 0, 0)", x.span(-1, 0, 0), -1);
        for (int far : FAR) {
            Check.is("span far", x.span(far, 0, 0), -1);
            Check.is("span far", x.span(0, far, 0), -1);
            Check.is("span far", x.span(0, 0, far), -1);
        }
    }

    private static void gapAndResend() {
        SpanCopier x = Check.with("chunk 2;delay 1;", 8);
        x.ticks(1);
        x.lose(0);
        x.ticks(2);
        x.lose(0);
        x.ticks(3);
        Check.promise(18);
        Check.is("gap(0, 0)", x.gap(0, 0), 0);
        Check.is("gap(0, 1)", x.gap(0, 1), 2);
        Check.is("gap(1, 0)", x.gap(1, 0), 4);
        Check.is("gap(1, 1)", x.gap(1, 1), 6);
        Check.is("gap(2, 0)", x.gap(2, 0), -1);
        Check.is("gap(-1, 0)", x.gap(-1, 0), -1);
        Check.is("gap(0, 2)", x.gap(0, 2), -1);
        Check.is("gap(0, -1)", x.gap(0, -1), -1);
        x.ticks(1);
        Check.promise(19);
        Check.is("resend(0, 0)", x.resend(0, 0), 4);
        Check.is("resend(0, 1)", x.resend(0, 1), 6);
        Check.is("resend(1, 0)", x.resend(1, 0), -1);
        Check.is("resend(-1, 0)", x.resend(-1, 0), -1);
        Check.is("resend(0, 2)", x.resend(0, 2), -1);
        Check.is("resend(0, -1)", x.resend(0, -1), -1);
        for (int far : FAR) {
            Check.is("gap far", x.gap(far, 0), -1);
            Check.is("gap far", x.gap(0, far), -1);
            Check.is("resend far", x.resend(far, 0), -1);
            Check.is("resend far", x.resend(0, far), -1);
        }
        SpanCopier y = Check.with("chunk 2;delay 1;", 8);
        for (int i = 0; i < 4; i++) {
            y.ticks(1);
            y.lose(0);
        }
        y.ticks(2);
        Check.is("those that touch are one", y.now(4), 1);
        Check.is("gap(0, 1)", y.gap(0, 1), 8);
        y.ticks(2);
        Check.is("trimmed", y.gap(0, 0), 2);
    }

    private static void taken() {
        Check.promise(20);
        SpanCopier x = Check.with("chunk 32;delay 1;", 240);
        x.ticks(1);
        x.lose(0);
        x.ticks(2);
        Check.is("taken(0)", x.taken(0), -1);
        Check.is("taken(31)", x.taken(31), -1);
        Check.is("taken(32)", x.taken(32), 33);
        Check.is("taken(63)", x.taken(63), 64);
        Check.is("taken(64)", x.taken(64), -1);
        x.ticks(6);
        Check.is("taken(239)", x.taken(239), 240);
        Check.is("taken(240)", x.taken(240), -1);
        Check.is("taken(-1)", x.taken(-1), -1);
        for (int far : FAR) {
            Check.is("taken far", x.taken(far), -1);
        }
    }

    private static void sum() {
        Check.promise(21);
        SpanCopier x = new SpanCopier();
        Check.is("sum(0)", Check.sumOrThrows(x, 0), 0);
        Check.is("sum(1)", Check.sumOrThrows(x, 1), 0);
        for (int what : new int[] {-1, 2, FAR[0], FAR[1]}) {
            Check.is("sum(" + what + ")", Check.sumOrThrows(x, what), Check.THROWS);
        }
        Check.order(x, "chunk 3;delay 1;");
        x.feed(0xff000001, 0x02ffffff, 0x80000000, 0x7fffffff, 0xffffffff);
        x.end(18);
        Check.is("file()", x.file(), 18);
        Check.is("sum(0), wrapping", x.sum(0), 0xff000001 + 0x02ffffff + 0x80000000 + 0x7fffffff + 0xffff0000);
        x.ticks(1);
        x.lose(0);
        x.ticks(2);
        Check.is("sum(1), at their places", x.sum(1), 0x00000001 + 0x02ff0000);
    }

    private static void storeAndJournal() {
        Check.promise(22);
        SpanCopier x = Check.with("act make a;has b;to c;has d;act drop e;act make f;delay 1;wait 9;", 1);
        Check.is("store()", x.store(), 0b1010);
        x.ticks(4);
        Check.is("store()", x.store(), 0b1110);
        x.ticks(1);
        Check.is("store()", x.store(), 0b1111);
        Check.promise(23);
        Check.is("journal(0)", x.journal(0), 0);
        Check.is("journal(1)", x.journal(1), -1);
        x.ticks(2);
        Check.is("journal(1)", x.journal(1), 1);
        Check.is("journal(2)", x.journal(2), 2);
        Check.is("journal(3)", x.journal(3), -1);
        Check.is("journal(-1)", x.journal(-1), -1);
        Check.is("journal(6)", x.journal(6), -1);
        for (int far : FAR) {
            Check.is("journal far", x.journal(far), -1);
        }
    }

    private static void need() {
        Check.promise(24);
        SpanCopier x = new SpanCopier();
        Check.is("need() without a FILE", x.need(), -1);
        x = Check.with("chunk 4;delay 1;", 17);
        Check.is("need()", x.need(), 5);
        x.ticks(2);
        Check.is("need()", x.need(), 4);
        x.lose(0);
        x.ticks(2);
        Check.now(x, "4=1 6=12");
        Check.is("need() of 4 to 8 and 12 to 17", x.need(), 3);
        x.ticks(20);
        Check.is("need() of none", x.need(), 0);
        SpanCopier y = Check.with("chunk 5;delay 1;", 1);
        Check.is("need()", y.need(), 1);
        y.ticks(2);
        Check.is("need()", y.need(), 0);
    }

    private static void over() {
        Check.promise(25);
        SpanCopier x = new SpanCopier();
        Check.is("over() without a FILE", x.over(), -1);
        x = Check.with("chunk 4;delay 1;wait 3;tries 2;", 10);
        Check.is("over()", x.over(), 8);
        Check.now(x, "0=0 1=1 2=0 3=0");
        x.ticks(3);
        Check.is("over()", x.over(), 5);
        x.ticks(5);
        Check.is("over() then", x.over(), 0);
        SpanCopier y = Check.with("policy asked;delay 1;chunk 1;", 3);
        y.ticks(1);
        y.lose(0);
        Check.is("over() never, TAKING", y.over(), -1);
        SpanCopier z = Check.with("delay 1;wait 1;tries 1;", 1);
        z.ticks(1);
        z.lose(0);
        z.ticks(1);
        z.lose(0);
        z.ticks(1);
        Check.now(z, "1=5 2=0");
        Check.is("over() never, IDLE", z.over(), -1);
        SpanCopier w = Check.with("chunk 4;delay 1;wait 3;tries 2;", 10);
        Check.book(w, Check.times("tick 60;", 33), 0);
        for (int i = 0; i < 33; i++) {
            w.ticks(60);
        }
        w.ticks(20);
        Check.is("now(0)", w.now(0), 2000);
        Check.is("over()", w.over(), 0);
        overBeyondTheLastTick();
        overLate();
    }

    /** A UNIT so late that no TICK is left for it: OVER does not care. */
    private static void overBeyondTheLastTick() {
        SpanCopier x = Check.with("chunk 4;delay 1;wait 60;tries 9;policy asked;", 8);
        x.ticks(1);
        x.lose(0);
        x.ticks(1);
        for (int i = 0; i < 40; i++) {
            x.late(0, 60);
        }
        Check.is("over() with a UNIT late by 2400", x.over(), -1);
        x.twice(0);
        SpanCopier y = Check.with("delay 1;wait 60;tries 9;", 1);
        y.ticks(4);
        for (int i = 0; i < 33; i++) {
            y.late(0, 60);
        }
        Check.unit(y, 0, 4, 1, 1980);
        for (int i = 0; i < 30; i++) {
            y.ticks(60);
        }
        Check.now(y, "2=4 1=4");
    }

    private static void overLate() {
        SpanCopier x = Check.with("chunk 1;delay 1;wait 60;tries 1;policy asked;", 2);
        x.ticks(1);
        for (int i = 0; i < 49; i++) {
            x.late(0, 60);
        }
        x.late(0, 58);
        Check.unit(x, 0, 0, 0, 2998);
        x.ticks(3);
        Check.now(x, "1=2 3=2");
        x.ticks(1);
        Check.now(x, "1=3 3=1");
        Check.unit(x, 0, 0, 0, 2994);
        // It comes in TICK 2999, then ACTING in it, FIN in the next one; the SENDER has FAILED long ago.
        // ACK of FIN comes two TICKS behind that.
        Check.is("over() in 2998", x.over(), 2998);
        x.late(0, 2);
        Check.is("over() in 3000", x.over(), 3000);
        x.late(0, 1);
        Check.is("over() in 3001", x.over(), -1);
        Check.is("overAs(0)", x.overAs(0), 5);
        Check.is("overAs(1)", x.overAs(1), 4);
    }

    private static void overAs() {
        Check.promise(26);
        SpanCopier x = Check.with("chunk 4;delay 1;wait 3;tries 2;", 10);
        for (int what = -1; what < 4; what++) {
            Check.is("overAs(" + what + ") ahead of any", x.overAs(what), -1);
        }
        x.over();
        int[] due = {4, 4, 7};
        for (int what = 0; what < 3; what++) {
            Check.is("overAs(" + what + ")", x.overAs(what), due[what]);
        }
        for (int what : new int[] {-1, 3, FAR[0], FAR[1]}) {
            Check.is("overAs(" + what + ")", x.overAs(what), -1);
        }
        Check.order(x, "delay 9;wait 1;tries 1;");
        x.over();
        Check.is("overAs(0) stays", x.overAs(0), 4);
        Check.file(x, 1);
        Check.is("over()", x.over(), 13);
        Check.is("overAs(0)", x.overAs(0), 5);
        Check.is("overAs(1)", x.overAs(1), 5);
        Check.is("overAs(2)", x.overAs(2), 4);
    }

    private static void drawn() {
        Check.promise(27);
        SpanCopier x = new SpanCopier();
        for (int n : new int[] {0, -1, 61, FAR[0], FAR[1]}) {
            Check.is("drawn(" + n + ")", x.drawn(n, 1), -1);
        }
        Check.is("drawn(60)", x.drawn(60, 1), 60);
        Check.now(x, "0=60");
        for (int i = 0; i < 32; i++) {
            x.ticks(60);
        }
        Check.is("drawn(60) near the end", x.drawn(60, 1), 20);
        Check.is("drawn(60) at the end", x.drawn(60, 1), 0);
    }

    private static int draw(int[] seed, int n) {
        seed[0] = seed[0] * 1103515245 + 12345;
        return (seed[0] >>> 8) % n;
    }

    /** The same by calls of lose(), twice(), late(), crash() and ticks(). */
    private static void drawnByHand() {
        Check.promise(27);
        for (int seed = -20; seed < 20; seed++) {
            SpanCopier x = Check.with("chunk 2;delay 3;wait 7;policy now;save 4;", 60);
            SpanCopier y = Check.with("chunk 2;delay 3;wait 7;policy now;save 4;", 60);
            x.drawn(60, seed);
            int[] s = {seed};
            for (int i = 0; i < 60; i++) {
                int what = draw(s, 12);
                if (what < 4 && y.now(3) > 0) {
                    int k = draw(s, y.now(3));
                    if (what < 2) {
                        y.lose(k);
                    } else if (what == 2) {
                        y.twice(k);
                    } else {
                        y.late(k, draw(s, 20) + 1);
                    }
                }
                if (what == 4 && draw(s, 8) == 0) {
                    y.crash();
                }
                y.ticks(1);
            }
            for (int what = 0; what < 12; what++) {
                Check.is("now(" + what + ") by seed " + seed, x.now(what), y.now(what));
            }
            Check.is("sum(1)", x.sum(1), y.sum(1));
        }
    }

    private static void odds() {
        Check.promise(28);
        SpanCopier x = new SpanCopier();
        Check.is("odds() without a FILE", x.odds(1, 1), -1);
        x = Check.with("chunk 4;delay 2;wait 20;", 80);
        for (int n : new int[] {0, -1, 21, FAR[0], FAR[1]}) {
            Check.is("odds(" + n + ")", x.odds(n, 1), -1);
        }
        int all = 0;
        for (int seed = 0; seed < 20; seed++) {
            SpanCopier y = Check.with("chunk 4;delay 2;wait 20;", 80);
            int[] s = {seed};
            // 300 TICKS in pieces of one, each by the seed that the TICK ahead left.
            for (int i = 0; i < 300; i++) {
                int before = s[0];
                follow(s, y);
                y.drawn(1, before);
            }
            int done = y.now(1) == 4 && y.now(2) == 4 ? 1 : 0;
            Check.is("odds(1, " + seed + ")", x.odds(1, seed), done);
            all += done;
        }
        Check.is("odds(20, 0)", x.odds(20, 0), all);
        Check.now(x, "0=0 3=0 1=1");
        Check.is("seeds wrap", x.odds(2, FAR[1]), x.odds(1, FAR[1]) + x.odds(1, FAR[0]));
        x.ticks(60);
        Check.now(x, "1=4 2=4");
        Check.is("all are", x.odds(20, 7), 20);
        x = Check.with("chunk 1;wait 30;tries 9;", 200);
        Check.is("odds() of one that is DONE behind 300", x.odds(1, 11559), 1);
        Check.is("odds() of one that is DONE behind 301", x.odds(1, 2056), 0);
    }

    /** Kept going by PROMPTS up to TICK 1994, and asked for the last time in a TICK so that one more is wanted. */
    private static SpanCopier nearTheEnd(int rest) {
        SpanCopier x = Check.with("delay 1;wait 60;tries 9;policy asked;", 1);
        x.ticks(1);
        x.lose(0);
        x.ticks(3);
        for (int i = 0; i < 33; i++) {
            x.prompt();
            x.ticks(3);
            x.lose(0);
            x.ticks(57);
        }
        x.ticks(rest);
        x.prompt();
        Check.now(x, "1=3 2=1 3=1");
        return x;
    }

    private static void lastTicks() {
        Check.promise(25);
        SpanCopier x = nearTheEnd(10);
        Check.is("over()", x.over(), 7);
        Check.is("overAs(1)", x.overAs(1), 4);
        Check.promise(28);
        Check.is("odds() where TICKS end", x.odds(20, 100), 0);
        Check.promise(7);
        Check.is("ticks(60)", x.ticks(60), 6);
        Check.now(x, "0=2000 1=4 2=3 3=1");
        Check.promise(25);
        Check.is("over() at 2000", x.over(), 1);
        Check.promise(28);
        Check.is("odds() at 2000", x.odds(20, 100), 0);
        x = nearTheEnd(9);
        Check.is("over()", x.over(), 7);
        Check.is("odds() in time", x.odds(20, 100) > 0, true);
    }

    /** The seed behind the draws of one TICK. */
    private static void follow(int[] s, SpanCopier y) {
        int what = draw(s, 12);
        if (what < 4 && y.now(3) > 0) {
            draw(s, y.now(3));
            if (what == 3) {
                draw(s, 20);
            }
        }
        if (what == 4) {
            draw(s, 8);
        }
    }

    private static void book() {
        Check.promise(29);
        SpanCopier x = Check.with("chunk 4;delay 1;wait 3;tries 2;", 10);
        x.feed(1, 2, 3, 4, 5);
        for (int lives : new int[] {-1, 2, FAR[0], FAR[1]}) {
            Check.is("book(" + lives + ")", x.book(lives), -1000);
        }
        Check.is("the tape stays", x.count(8), 20);
        Check.is("told(0)", x.told(0), -1);
        Check.is("judged", Check.book(x, "tick 2;lose 0;tick 1;spoil 0;tick 3;", 0), -1);
        Check.now(x, "0=0 3=0 1=1");
        Check.is("the tape", x.count(8), 0);
        Check.is("judged WRONG", Check.book(x, "tick 2;lose 0;lose 0;tick 1;", 0), 2);
        Check.now(x, "0=0");
        Check.is("lived WRONG", Check.book(x, "tick 2;lose 0;lose 0;tick 1;", 1), 2);
        Check.now(x, "0=2 3=0 10=2");
        Check.is("lived", Check.book(x, "tick 1;\nspoil 0;tick 1;", 1), -1);
        Check.now(x, "0=4 4=1 6=10");
        Check.is("taken(8)", x.taken(8), 246);
        Check.is("WRONG at once", Check.book(x, "lose 5;tick 9;", 1), 0);
        Check.now(x, "0=4");
    }

    private static void told(SpanCopier x, String text, int lives, int... due) {
        Check.book(x, text, lives);
        for (int what = 0; what < 4; what++) {
            Check.is("told(" + what + ") of " + text, x.told(what), due[what]);
        }
    }

    private static void toldWhy() {
        Check.promise(30);
        SpanCopier x = Check.with("chunk 4;delay 2;", 40);
        for (int what = -1; what < 5; what++) {
            Check.is("told(" + what + ") ahead of any", x.told(what), -1);
        }
        told(x, "", 0, 0, 0, 0, 0);
        told(x, "tick 3;lose 0;", 0, 0, 2, 3, 1);
        told(x, "tick 3;lose 2;", 0, 9, 1, 3, 2);
        told(x, "tick 3;twice 2;", 0, 9, 1, 3, 2);
        told(x, "tick 3;late 2 1;", 0, 9, 1, 3, 2);
        told(x, "tick 3;spoil 2;", 0, 9, 1, 3, 2);
        told(x, "tick 1;" + Check.times("twice 0;", 39), 0, 0, 40, 1, 40);
        told(x, "tick 2;" + Check.times("twice 0;", 39), 0, 11, 39, 2, 40);
        told(x, "prompt;spoil 0;", 0, 21, 1, 0, 1);
        told(x, "tick 1;spoil 0;spoil 0;", 0, 22, 2, 1, 1);
        told(x, "tick 60;prompt;", 0, 31, 1, 60, 0);
        told(x, "tick 2;crash;", 0, 41, 1, 2, 2);
        told(x, Check.times("tick 60;", 34), 0, 51, 33, 1980, 0);
        told(x, Check.times("tick 60;", 33) + "tick 20;crash;tick 1;", 0, 41, 34, 2000, 0);
        told(x, Check.times("tick 60;", 33) + "tick 20;tick 1;", 0, 51, 34, 2000, 0);
        Check.now(x, "0=0 3=0");
        Check.book(x, "tock;", 0);
        Check.is("told(0) behind a FAULT", x.told(0), 51);
        x.book(7);
        Check.is("told(2) behind -1000", x.told(2), 2000);
        told(x, "tick 3;lose 0;crash;tick 1;", 1, 0, 4, 4, 2);
        Check.now(x, "0=4 3=2");
        Check.is("told(-1)", x.told(-1), -1);
        Check.is("told(4)", x.told(4), -1);
        for (int far : FAR) {
            Check.is("told far", x.told(far), -1);
        }
    }

    private static void said(SpanCopier x, String text, int... units) {
        Check.sentence(x, text);
        Check.is("fault of " + text, x.fault(), 0);
        Check.is("said(-1) of " + text, x.said(-1), units.length);
        for (int k = 0; k < units.length; k++) {
            Check.is("said(" + k + ") of " + text, x.said(k), units[k]);
        }
        Check.is("said beyond, of " + text, x.said(units.length), -1);
    }

    /** Under way: DATA 0 to 4 (in 1 TICK), DATA 4 to 8 (2), DATA 8 to 10 (3, spoilt), EOF (4), PROMPT (5). */
    private static void said() {
        Check.promise(32);
        SpanCopier x = Check.with("chunk 4;delay 5;", 10);
        x.ticks(4);
        x.prompt();
        x.spoil(2);
        Check.is("said() without a SENTENCE", x.said(-1), -1);
        Check.is("said(0) without a SENTENCE", x.said(0), -1);
        said(x, "data", 0, 1, 2);
        Check.is("said(-2)", x.said(-2), -1);
        for (int far : FAR) {
            Check.is("said far", x.said(far), -1);
        }
        said(x, "not data", 3, 4);
        said(x, "eof", 3);
        said(x, "out", 0, 1, 2, 3, 4);
        said(x, "spoilt", 2);
        said(x, "from<5", 0, 1, 3, 4);
        said(x, "from=4", 1);
        said(x, "from>4", 2);
        said(x, "many<4", 2, 3, 4);
        said(x, "many=4", 0, 1);
        said(x, "ticks<3", 0, 1);
        said(x, "ticks=1", 0);
        said(x, "ticks>2", 2, 3, 4);
        said(x, "number>2", 3, 4);
        said(x, "number=0 or number=4", 0, 4);
        said(x, "data and not spoilt", 0, 1);
        said(x, "eof or data and spoilt", 2, 3);
        said(x, "(eof or data) and spoilt", 2);
        said(x, "not eof and not data", 4);
        said(x, "not (eof and data) and not not number<1", 0);
        said(x, "nak or fin or ack");
        x.ticks(1);
        Check.is("it is said of those then", x.said(-1), 0);
        said(x, "number=0", 0);
        Check.is("order", Check.order(x, ""), 0);
        Check.is("no SENTENCE behind an ORDER", x.said(-1), -1);
    }

    private static void saidKinds() {
        Check.promise(32);
        SpanCopier x = Check.with("delay 1;wait 60;", 2);
        x.ticks(1);
        x.lose(0);
        x.ticks(2);
        said(x, "nak", 0);
        said(x, "ack", 1);
        said(x, "out");
        said(x, "from=0 and many=0", 0, 1);
        SpanCopier y = Check.with("delay 1;wait 60;", 2);
        y.ticks(4);
        said(y, "fin", 0);
        said(y, "ack");
        said(y, "not out", 0);
        y.ticks(1);
        said(y, "ack", 0);
        said(y, "out", 0);
    }

    private static void images() {
        Check.promise(33);
        SpanCopier x = Check.with("chunk 4;delay 2;has a;act make b;", 20);
        for (int k : new int[] {-1, 2, FAR[0], FAR[1]}) {
            Check.is("image(" + k + ")", x.image(k), false);
            Check.is("restore(" + k + ")", x.restore(k), false);
        }
        Check.is("restore(0) of nothing", x.restore(0), false);
        Check.is("restore(1) of nothing", x.restore(1), false);
        Check.sentence(x, "data");
        x.ticks(3);
        x.spoil(0);
        Check.is("image(0)", x.image(0), true);
        Check.is("restore(1) of nothing", x.restore(1), false);
        x.ticks(20);
        Check.is("image(1)", x.image(1), true);
        Check.promise(34);
        Check.order(x, "chunk 9;");
        Check.book(x, "crash;", 0);
        Check.order(x, "chunk 0;");
        x.feed(1, 2, 3, 4, 5);
        Check.is("restore(0)", x.restore(0), true);
        Check.now(x, "0=3 1=1 2=1 3=2 6=4 7=12 11=20");
        Check.unit(x, 0, 0, 0, 0, 4, 4, 1);
        Check.is("count(0)", x.count(0), 4);
        Check.is("said(-1)", x.said(-1), 2);
        Check.is("store()", x.store(), 1);
        Check.is("the tape stays", x.count(8), 20);
        Check.is("fault() stays", x.fault(), 2);
        Check.is("told(0) stays", x.told(0), 41);
        Check.is("undo()", x.undo(), -1);
        Check.now(x, "0=3");
        x.ticks(1);
        Check.is("undo()", x.undo(), 0);
        x.ticks(5);
        Check.is("restore(0) again", x.restore(0), true);
        Check.now(x, "0=3 3=2");
        Check.is("restore(1)", x.restore(1), true);
        Check.now(x, "0=23 2=5 8=1");
    }
}
