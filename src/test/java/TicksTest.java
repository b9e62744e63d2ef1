/** Promise 7, and part 2 of the Terms: what a TICK does, by each policy. */
public final class TicksTest {
    public static void main(String[] args) {
        ticks();
        plainWay();
        lostEof();
        patience();
        policyEnd();
        policyNow();
        policyAsked();
        naksRunOut();
        progressStartsNaksAgain();
        resendsInOrder();
        eightSpans();
        overlapping();
        wrongSum();
        finRunsOut();
        acts();
        actsNotTried();
        toTakesATick();
        saves();
        fullLink();
        repeatedEof();
        lateAck();
        Check.end();
    }

    private static void ticks() {
        Check.promise(7);
        SpanCopier x = new SpanCopier();
        for (int n : new int[] {0, -1, 61, Integer.MIN_VALUE, Integer.MAX_VALUE}) {
            Check.is("ticks(" + n + ")", x.ticks(n), -1);
        }
        Check.is("now(0)", x.now(0), 0);
        Check.is("ticks(1)", x.ticks(1), 1);
        Check.is("ticks(60)", x.ticks(60), 60);
        for (int i = 0; i < 32; i++) {
            x.ticks(60);
        }
        Check.is("now(0)", x.now(0), 1981);
        Check.is("ticks(20) near the end", x.ticks(20), 19);
        Check.is("now(0)", x.now(0), 2000);
        Check.is("ticks(1) at the end", x.ticks(1), 0);
        Check.is("now(0)", x.now(0), 2000);
    }

    /** Three DATA, EOF, its ACK, FIN, its ACK: each comes a TICK later. */
    private static void plainWay() {
        SpanCopier x = Check.with("chunk 4;delay 1;wait 3;tries 2;", 10);
        x.ticks(1);
        Check.now(x, "0=1 1=1 2=0 3=1 6=0 7=4 10=1");
        Check.unit(x, 0, 0, 0, 0, 0, 4, 0);
        x.ticks(1);
        Check.now(x, "1=1 2=1 3=1 6=4 7=8 10=2");
        Check.unit(x, 0, 0, 0, 0, 4, 4, 0);
        x.ticks(1);
        Check.now(x, "1=1 2=1 3=1 6=8 7=10");
        Check.unit(x, 0, 0, 0, 0, 8, 2, 0);
        x.ticks(1);
        Check.now(x, "1=2 2=1 3=1 6=10 9=0");
        Check.unit(x, 0, 1, 0, 0, 10, 0, 0);
        x.ticks(1);
        Check.now(x, "1=2 2=2 3=1 9=1 8=-1");
        Check.unit(x, 0, 3, 1, 0, 0, 0, 0);
        x.ticks(1);
        Check.now(x, "1=3 2=3 3=1 8=0");
        Check.unit(x, 0, 4, 1, 0, 0, 0, 0);
        x.ticks(1);
        Check.now(x, "1=4 2=3 3=1");
        Check.unit(x, 0, 5, 0, 0, 0, 0, 0);
        x.ticks(1);
        Check.now(x, "0=8 1=4 2=4 3=0 10=7");
        for (int i = 0; i < 10; i++) {
            Check.is("taken(" + i + ")", x.taken(i), i + 1);
        }
        x.ticks(60);
        Check.now(x, "1=4 2=4 3=0 10=7");
    }

    private static void lostEof() {
        SpanCopier x = Check.with("delay 5;wait 3;tries 2;", 1);
        x.ticks(2);
        Check.now(x, "1=2 3=2 10=2");
        x.lose(1);
        x.ticks(2);
        Check.now(x, "1=2 10=2");
        x.ticks(1);
        Check.now(x, "0=5 1=2 10=3");
        x.lose(1);
        x.ticks(2);
        Check.now(x, "1=2 2=1 10=3");
        x.ticks(1);
        Check.now(x, "0=8 1=5 2=1 3=0 10=3");
        Check.is("over()", x.over(), -1);
    }

    /** AWAITING from TICK 4 on: that TICK counts, so that 6 of 6 are gone behind TICK 9. */
    private static void patience() {
        SpanCopier x = Check.with("delay 1;wait 1;tries 9;policy asked;", 1);
        x.ticks(1);
        x.lose(0);
        x.ticks(1);
        x.ticks(1);
        Check.now(x, "0=3 1=2 2=1 4=1");
        x.lose(1);
        x.ticks(1);
        Check.now(x, "0=4 1=3");
        x.ticks(4);
        Check.now(x, "0=8 1=3");
        x.ticks(1);
        Check.now(x, "0=9 1=5 2=1");
    }

    private static void policyEnd() {
        SpanCopier x = Check.with("chunk 4;delay 1;wait 5;", 12);
        x.ticks(1);
        x.lose(0);
        x.ticks(2);
        Check.now(x, "4=1 3=1 6=8");
        Check.is("gap(0, 0)", x.gap(0, 0), 0);
        Check.is("gap(0, 1)", x.gap(0, 1), 4);
        x.lose(0);
        x.ticks(2);
        Check.now(x, "0=5 1=2 2=1 4=2 6=12 9=1 3=2");
        Check.unit(x, 0, 2, 1, 0, 2, 0, 0);
        Check.unit(x, 1, 3, 1, 0, 0, 0, 0);
        Check.is("span(0, 0, 1)", x.span(0, 0, 1), 4);
        Check.is("span(0, 1, 0)", x.span(0, 1, 0), 8);
        Check.is("span(0, 1, 1)", x.span(0, 1, 1), 12);
        x.ticks(1);
        Check.now(x, "1=3 5=1 3=1");
        Check.unit(x, 0, 0, 0, 0, 0, 4, 0);
        Check.is("resend(0, 0)", x.resend(0, 0), 8);
        Check.is("resend(0, 1)", x.resend(0, 1), 12);
        x.ticks(2);
        Check.now(x, "0=8 4=0 5=0 2=2 1=3 7=12");
        Check.is("sum", x.sum(0), x.sum(1));
    }

    private static void policyNow() {
        SpanCopier x = Check.with("chunk 2;delay 1;policy now;wait 9;", 12);
        x.ticks(1);
        x.lose(0);
        x.ticks(1);
        x.lose(0);
        x.ticks(2);
        Check.now(x, "4=1 6=6 3=2");
        Check.unit(x, 0, 2, 1, 0, 1, 0, 0);
        Check.is("span(0, 0, 0)", x.span(0, 0, 0), 0);
        Check.is("span(0, 0, 1)", x.span(0, 0, 1), 4);
        Check.unit(x, 1, 0, 0, 0, 6, 2, 0);
        x.lose(1);
        x.ticks(1);
        Check.now(x, "5=1 1=1 7=8");
        Check.unit(x, 0, 0, 0, 0, 0, 2, 0);
        x.lose(0);
        x.ticks(1);
        Check.unit(x, 0, 0, 0, 0, 2, 2, 0);
        x.lose(0);
        x.ticks(2);
        Check.now(x, "0=8 4=2 6=10 3=2");
        Check.unit(x, 0, 2, 1, 0, 1, 0, 0);
        Check.is("a NAK of just that: from", x.span(0, 0, 0), 6);
        Check.is("a NAK of just that: to", x.span(0, 0, 1), 8);
    }

    private static void policyAsked() {
        SpanCopier x = Check.with("chunk 4;delay 1;policy asked;wait 2;tries 1;", 8);
        Check.is("prompt()", x.prompt(), 0);
        Check.unit(x, 0, 6, 0, 1, 0, 0, 0);
        x.ticks(1);
        x.lose(1);
        x.ticks(1);
        Check.now(x, "2=0 3=1 10=3");
        x.ticks(2);
        Check.now(x, "0=4 2=1 4=1 9=1 3=1");
        Check.unit(x, 0, 3, 1, 0, 0, 0, 0);
        x.ticks(3);
        Check.now(x, "0=7 1=3 2=1 4=1 3=0");
        Check.is("prompt()", x.prompt(), 0);
        x.ticks(2);
        Check.unit(x, 0, 2, 1, 0, 1, 0, 0);
        x.ticks(1);
        Check.unit(x, 0, 0, 0, 0, 0, 4, 0);
        x.ticks(1);
        Check.now(x, "2=2 4=0");
        SpanCopier y = Check.with("chunk 4;delay 1;policy asked;", 8);
        y.ticks(2);
        y.prompt();
        y.ticks(2);
        Check.now(y, "2=2 4=0 3=2");
        Check.unit(y, 0, 2, 1, 0, 0, 0, 0);
        Check.is("span(0, 0, 0)", y.span(0, 0, 0), -1);
    }

    /** EOF comes in TICK 2 and its WAIT runs in that TICK: NAKS in TICKS 2 and 4, CODE 2 in 7. */
    private static void naksRunOut() {
        SpanCopier x = Check.with("delay 1;wait 3;tries 2;", 4);
        x.ticks(1);
        x.lose(0);
        x.ticks(2);
        Check.now(x, "0=3 2=1 4=1 9=1 3=2 10=4");
        x.lose(0);
        x.lose(0);
        x.ticks(1);
        Check.now(x, "0=4 3=0");
        x.ticks(1);
        Check.now(x, "0=5 2=1 10=6");
        Check.unit(x, 0, 1, 0, 0, 4, 0, 0);
        Check.unit(x, 1, 2, 1, 0, 1, 0, 0);
        x.lose(1);
        x.lose(0);
        x.ticks(2);
        Check.now(x, "0=7 2=1 8=-1");
        x.ticks(1);
        Check.now(x, "0=8 2=3 8=2 1=5");
        Check.unit(x, 0, 4, 1, 0, 2, 0, 0);
        x.ticks(1);
        Check.now(x, "1=5");
        Check.unit(x, 0, 5, 0, 0, 0, 0, 0);
        x.ticks(1);
        Check.now(x, "2=5 8=2");
    }

    private static void progressStartsNaksAgain() {
        SpanCopier x = Check.with("chunk 1;delay 1;wait 3;tries 1;", 3);
        x.ticks(1);
        x.lose(0);
        x.ticks(1);
        x.lose(0);
        x.ticks(3);
        Check.now(x, "0=5 4=1 9=1 3=2");
        x.ticks(1);
        Check.unit(x, 0, 0, 0, 0, 0, 1, 0);
        x.ticks(1);
        Check.now(x, "0=7 2=1 4=1 3=1");
        x.lose(0);
        x.ticks(1);
        Check.now(x, "0=8 2=1 3=0");
        x.ticks(1);
        Check.now(x, "0=9 2=1 3=1");
        Check.unit(x, 0, 2, 1, 0, 1, 0, 0);
    }

    private static void resendsInOrder() {
        SpanCopier x = Check.with("chunk 3;delay 1;policy now;", 30);
        x.ticks(1);
        x.lose(0);
        x.ticks(1);
        x.lose(0);
        x.ticks(1);
        x.ticks(1);
        Check.unit(x, 0, 2, 1, 0, 1);
        x.ticks(1);
        Check.now(x, "5=1 7=12");
        Check.unit(x, 0, 0, 0, 0, 0, 3, 0);
        Check.is("resend(0, 0)", x.resend(0, 0), 3);
        Check.is("resend(0, 1)", x.resend(0, 1), 6);
        Check.is("resend(1, 0)", x.resend(1, 0), -1);
        x.ticks(1);
        Check.now(x, "5=0 7=12");
        Check.unit(x, 0, 0, 0, 0, 3, 3, 0);
        x.ticks(1);
        Check.now(x, "7=15 4=0");
    }

    private static void eightSpans() {
        SpanCopier x = Check.with("chunk 1;delay 1;wait 60;", 40);
        for (int i = 0; i < 40; i++) {
            x.ticks(1);
            if (i % 2 == 0) {
                x.lose(0);
            }
        }
        x.ticks(2);
        Check.now(x, "4=20 9=1");
        Check.unit(x, 0, 2, 1, 0, 8, 0, 0);
        Check.is("span(0, 7, 0)", x.span(0, 7, 0), 14);
        Check.is("span(0, 7, 1)", x.span(0, 7, 1), 15);
        Check.is("span(0, 8, 0)", x.span(0, 8, 0), -1);
        x.ticks(1);
        Check.now(x, "5=7");
    }

    /** What comes again takes the place of what was there; a spoilt byte can be mended so. */
    private static void overlapping() {
        SpanCopier x = Check.with("chunk 4;delay 1;policy now;wait 60;", 8);
        x.ticks(1);
        x.twice(0);
        x.late(1, 1);
        x.spoil(0);
        x.ticks(1);
        Check.is("taken(0)", x.taken(0), 254);
        Check.is("taken(1)", x.taken(1), 2);
        x.ticks(1);
        Check.is("taken(0)", x.taken(0), 1);
        Check.now(x, "6=8 4=0");
    }

    private static void wrongSum() {
        SpanCopier x = Check.with("chunk 4;delay 1;", 4);
        x.ticks(1);
        x.spoil(0);
        x.ticks(2);
        Check.now(x, "0=3 2=3 8=1 9=1 3=2");
        Check.unit(x, 0, 3, 1, 0, 0);
        Check.unit(x, 1, 4, 1, 0, 1, 0, 0);
        Check.is("sum(1)", x.sum(1), 0xfe020304);
        x.ticks(1);
        Check.now(x, "1=5 2=3");
        x.ticks(1);
        Check.now(x, "1=5 2=5 3=0");
        Check.is("store()", x.store(), 0);
    }

    private static void finRunsOut() {
        SpanCopier x = Check.with("delay 1;wait 2;tries 2;", 1);
        x.ticks(4);
        Check.now(x, "0=4 2=3 3=1");
        Check.unit(x, 0, 4, 1, 0, 0);
        x.lose(0);
        x.ticks(1);
        Check.now(x, "2=3 3=0");
        x.ticks(1);
        Check.now(x, "0=6 2=3 3=1");
        Check.unit(x, 0, 4, 1, 0, 0);
        x.ticks(1);
        Check.now(x, "1=4 2=3 3=1");
        x.lose(0);
        x.ticks(1);
        Check.now(x, "0=8 1=4 2=5 8=0");
    }

    private static void acts() {
        SpanCopier x = Check.with("delay 1;wait 60;has a;has b;act make c;act drop a;act move b a;act copy a b;", 1);
        x.ticks(3);
        Check.now(x, "2=2");
        int[] stores = {0b111, 0b110, 0b101, 0b111};
        for (int i = 0; i < 4; i++) {
            Check.is("journal ahead of " + i, x.journal(i), -1);
            x.ticks(1);
            Check.is("store behind " + i, x.store(), stores[i]);
            Check.is("journal of " + i, x.journal(i), 0);
            Check.now(x, "2=2 8=-1");
        }
        x.ticks(1);
        Check.now(x, "2=3 8=0");
        Check.is("journal(4)", x.journal(4), -1);
    }

    private static void actsNotTried() {
        String[] cannot = {"act make a;", "act drop b;", "act move b c;", "act move a d;", "act copy b c;",
            "act copy a d;"};
        for (String act : cannot) {
            SpanCopier x = Check.with("delay 1;has a;has d;" + act + "act make e;act drop a;", 1);
            x.ticks(6);
            Check.is("journal(0) of " + act, x.journal(0), 1);
            Check.is("journal(1) of " + act, x.journal(1), 2);
            Check.is("journal(2) of " + act, x.journal(2), 2);
            Check.is("store() of " + act, x.store(), 3);
            x.ticks(1);
            Check.now(x, "2=3 8=0");
        }
    }

    private static void toTakesATick() {
        SpanCopier x = Check.with("delay 1;has b;to a;act drop a;", 1);
        x.ticks(3);
        Check.now(x, "2=2");
        Check.is("store()", x.store(), 1);
        x.ticks(1);
        Check.is("store()", x.store(), 3);
        Check.is("journal(0)", x.journal(0), -1);
        x.crash();
        x.ticks(1);
        Check.is("store()", x.store(), 1);
        Check.is("journal(0)", x.journal(0), 0);
        x.crash();
        x.ticks(1);
        Check.now(x, "2=3");
        Check.is("'to' is done once", x.store(), 1);
    }

    private static void saves() {
        SpanCopier x = Check.with("chunk 1;delay 1;save 3;", 9);
        x.ticks(2);
        Check.now(x, "2=1 6=1");
        x.crash();
        Check.now(x, "2=0 6=0");
        x.ticks(1);
        Check.now(x, "0=3 6=2 4=1");
        x.ticks(2);
        Check.now(x, "6=4");
        x.crash();
        Check.now(x, "0=5 6=2 4=1");
        x.ticks(1);
        Check.now(x, "0=6 6=5 4=2");
        x.crash();
        Check.now(x, "6=5 4=2");
    }

    /** The 41st is lost at once, but was SENT; the SENDER does not send those bytes again. */
    private static void fullLink() {
        SpanCopier x = Check.with("chunk 1;delay 9;", 60);
        x.ticks(1);
        for (int i = 0; i < 39; i++) {
            Check.is("twice", x.twice(0), 0);
        }
        Check.is("twice", x.twice(0), 1);
        x.ticks(1);
        Check.now(x, "3=40 7=2 10=2");
        Check.is("prompt()", x.prompt(), 0);
        Check.now(x, "3=40 10=3");
        x.ticks(7);
        Check.now(x, "3=40 7=9 6=0");
        x.ticks(1);
        Check.now(x, "3=1 7=10 6=1 10=11");
        Check.unit(x, 0, 0, 0, 8, 9, 1, 0);
    }

    private static void repeatedEof() {
        SpanCopier x = Check.with("delay 1;wait 60;", 1);
        x.ticks(2);
        x.twice(0);
        x.late(1, 20);
        x.ticks(6);
        Check.now(x, "1=4 2=4 3=1");
        x.ticks(15);
        Check.now(x, "1=4 2=4 3=1");
        Check.unit(x, 0, 3, 1, 0, 0);
    }

    /** A FIN is answered whatever the SENDER is, and a NAK is not heard any more. */
    private static void lateAck() {
        SpanCopier x = Check.with("delay 1;wait 60;", 1);
        x.ticks(4);
        x.twice(0);
        x.late(1, 10);
        x.ticks(10);
        Check.now(x, "1=4 2=4 3=1");
        x.ticks(1);
        Check.now(x, "3=1");
        Check.unit(x, 0, 5, 0, 0, 0);
        x.ticks(1);
        Check.now(x, "1=4 2=4 3=0");
    }
}
