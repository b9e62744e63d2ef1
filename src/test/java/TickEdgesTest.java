/** The edges that part 2 of the Terms names: UNITS, SPANS, and what a TICK does, sentence by sentence. */
public final class TickEdgesTest {
    private static final int DATA = 0;
    private static final int EOF = 1;
    private static final int NAK = 2;
    private static final int FIN = 4;

    public static void main(String[] args) {
        sums();
        delays();
        fortyOfData();
        fortyOfEof();
        fortyOfNak();
        fortyOfNakByWait();
        fortyOfEofThatComes();
        fortyOfFin();
        roomOfWhatComes();
        eightSpans();
        touchingGaps();
        touchingResends();
        resendsAskedForTwice();
        lastTick();
        dataToWhom();
        fromBeyondEnd();
        endIfFarther();
        bytesAreThese();
        naksBeginAgain();
        eofOnce();
        eofToAll();
        eofLong();
        askedNone();
        promptIfTaking();
        ackOfFinIfFinishing();
        nakToDone();
        ackOfEofIfWaiting();
        finToAll();
        patience();
        chunksOfResends();
        chunksOfFile();
        triesOfEof();
        waitWithResends();
        sameSum();
        triesOfNak();
        actingAtOnce();
        toOnce();
        sixActs();
        notTried();
        actsOnTheStore();
        triesOfFin();
        saves();
        savedAtFirst();
        crashStays();
        Check.end();
    }

    private static SpanCopier with(String order, String bytes) {
        SpanCopier x = new SpanCopier();
        Check.order(x, order);
        Check.is("fault()", x.fault(), 0);
        Check.put(x, bytes);
        Check.is("file()", x.file(), bytes.length());
        return x;
    }

    /** All that is under way is lost: how many of a kind were. */
    private static int loseAll(SpanCopier x, int kind) {
        int found = 0;
        for (int i = 0; i < 40 && x.now(3) > 0; i++) {
            found += Check.unitOrThrows(x, 0, 0) == kind ? 1 : 0;
            x.lose(0);
        }
        return found;
    }

    /** UNIT 0 is there 40 times then; all but itself come 60 TICKS later. */
    private static void crowd(SpanCopier x) {
        while (x.twice(0) == 0) {
            x.late(x.now(3) - 1, 60);
        }
        Check.now(x, "3=40");
    }

    private static int unitsOf(SpanCopier x, int kind) {
        int found = 0;
        for (int k = 0; k < x.now(3); k++) {
            found += Check.unitOrThrows(x, k, 0) == kind ? 1 : 0;
        }
        return found;
    }

    private static void sums() {
        Check.says("each at place i (from 0) counts as an int, 8 by (3 less i modulo 4) places higher, all added,"
                + " wrapping");
        int[] due = {0xff000000, 0x00ff0000, 0x0000ff00, 0x000000ff, 0xff000000, 0x00ff0000};
        for (int place = 0; place < due.length; place++) {
            SpanCopier x = with("", Check.times("\0", place) + "\u00ff\0\0");
            Check.is("sum(0) of 255 at " + place, x.sum(0), due[place]);
        }
        SpanCopier x = with("chunk 32;delay 1;", Check.times("\u00ff", 240));
        Check.is("sum(0) of 60 times -1", x.sum(0), -60);
        x.ticks(9);
        Check.is("sum(1) of 60 times -1", x.sum(1), -60);
        x = with("", Check.times("\u0080\0\0\0", 2));
        Check.is("sum(0) that wraps to 0", x.sum(0), 0);
        x = with("", "\u007f\u00ff\u00ff\u00ff\0\0\0\1");
        Check.is("sum(0) that wraps to the least", x.sum(0), Integer.MIN_VALUE);
    }

    private static void delays() {
        Check.says("What is SENT in TICK t is under way, behind all others, and comes in TICK t and 'delay'");
        for (int d = 1; d <= 9; d++) {
            SpanCopier x = Check.with("wait 60;chunk 1;delay " + d + ";", 20);
            x.ticks(1);
            Check.unit(x, 0, 0, 0, d - 1, 0, 1, 0);
            x.prompt();
            Check.unit(x, 1, 6, 0, d, 0, 0, 0);
            if (d > 1) {
                x.ticks(d - 1);
            }
            Check.now(x, "2=0 0=" + d);
            Check.is("units", x.now(3), d + 1);
            x.ticks(1);
            Check.now(x, "2=1 6=1");
        }
    }

    private static void fortyOfData() {
        Check.says("if 40 are under way, it is lost");
        SpanCopier x = Check.with("chunk 1;delay 9;wait 60;", 60);
        x.ticks(1);
        for (int i = 0; i < 38; i++) {
            x.twice(0);
        }
        Check.now(x, "3=39 10=1");
        x.ticks(1);
        Check.now(x, "3=40 7=2 10=2");
        Check.unit(x, 39, 0, 0, 8, 1, 1, 0);
        x.ticks(1);
        Check.now(x, "3=40 7=3 10=3");
        Check.unit(x, 39, 0, 0, 7, 1, 1, 0);
        x.lose(5);
        Check.is("prompt() at 39", x.prompt(), 0);
        Check.now(x, "3=40 10=4");
        Check.unit(x, 39, 6, 0, 9, 0, 0, 0);
        Check.is("prompt() at 40", x.prompt(), 0);
        Check.now(x, "3=40 10=5");
    }

    /** EOF in TICKS 1 and 4, both lost at once, but SENT: FAILED in TICK 7. */
    private static void fortyOfEof() {
        SpanCopier x = Check.with("delay 9;wait 3;tries 2;", 1);
        x.ticks(1);
        for (int i = 0; i < 39; i++) {
            x.twice(0);
        }
        x.ticks(1);
        Check.now(x, "1=2 3=40 10=2");
        Check.is("no EOF is under way", unitsOf(x, EOF), 0);
        x.ticks(3);
        Check.now(x, "1=2 10=3");
        x.ticks(2);
        Check.now(x, "0=7 1=2 10=3");
        x.ticks(1);
        Check.now(x, "0=8 1=5 3=40 2=0");
    }

    /** DATA comes from beyond END: there is room for its NAK, then none for the next DATA. */
    private static void fortyOfNak() {
        SpanCopier x = Check.with("policy now;chunk 1;delay 1;wait 60;", 4);
        x.ticks(1);
        x.lose(0);
        x.ticks(1);
        crowd(x);
        x.ticks(1);
        Check.now(x, "3=40 4=1 7=3 10=4");
        Check.unit(x, 39, 2, 1, 0, 1, 0, 0);
        Check.is("span(39, 0, 1)", x.span(39, 0, 1), 1);
        x.lose(39);
        x.twice(0);
        Check.now(x, "3=40");
        x.ticks(1);
        Check.now(x, "3=40 7=4 10=5");
        x.lose(39);
        x.prompt();
        Check.now(x, "3=40 10=6");
        x.ticks(2);
        // EOF had no room in TICK 4; PROMPT came in TICK 5, and a NAK takes its place.
        Check.now(x, "3=40 1=2 10=8");
        Check.is("no EOF", unitsOf(x, EOF), 0);
        Check.is("one NAK", unitsOf(x, NAK), 1);
    }

    /** NAKS of EOF in TICK 2 and of WAIT in TICK 4, this one lost at once: CODE 2 in TICK 7 all the same. */
    private static void fortyOfNakByWait() {
        SpanCopier x = Check.with("delay 1;wait 3;tries 2;", 1);
        x.ticks(1);
        x.lose(0);
        x.ticks(2);
        Check.now(x, "0=3 4=1 3=2 10=4");
        x.lose(1);
        crowd(x);
        x.late(0, 60);
        x.ticks(1);
        Check.now(x, "0=4 3=40 1=2 10=4");
        x.ticks(1);
        // The SENDER's EOF is lost at once, then the TAKER's NAK.
        Check.now(x, "0=5 3=40 1=2 2=1 10=6");
        x.ticks(2);
        Check.now(x, "0=7 2=1");
        x.ticks(1);
        Check.now(x, "0=8 1=5 2=3 8=2 3=40 10=7");
    }

    /** EOF comes: its NAK takes its place, and for its ACK there is none. */
    private static void fortyOfEofThatComes() {
        SpanCopier x = Check.with("delay 1;wait 60;", 1);
        x.ticks(1);
        x.lose(0);
        x.ticks(1);
        crowd(x);
        x.ticks(1);
        Check.now(x, "3=40 9=1 10=4");
        Check.unit(x, 39, 2, 1, 0, 1, 0, 0);
        Check.is("no ACK", unitsOf(x, 3), 0);
    }

    /** All 40 are late: EOF once more and FIN are lost at once, and both ends run out of tries. */
    private static void fortyOfFin() {
        SpanCopier x = Check.with("delay 1;wait 2;tries 2;", 1);
        x.ticks(3);
        Check.now(x, "2=2 3=1");
        crowd(x);
        x.late(0, 60);
        x.ticks(1);
        Check.now(x, "0=4 1=2 2=3 8=0 3=40 10=5");
        x.ticks(1);
        Check.now(x, "1=2 2=3 10=5");
        x.ticks(1);
        Check.now(x, "0=6 1=5 2=3 10=6");
        x.ticks(1);
        Check.now(x, "2=3");
        x.ticks(1);
        Check.now(x, "0=8 2=5 8=0 3=40 10=6");
    }

    private static void roomOfWhatComes() {
        Check.says("(each is that no more ahead of what it brings)");
        SpanCopier x = Check.with("delay 1;wait 60;", 1);
        x.ticks(2);
        crowd(x);
        x.ticks(1);
        Check.now(x, "3=40 9=1 10=3");
        Check.unit(x, 39, 3, 1, 0, 0, 0, 0);
        Check.unit(x, 0, 1, 0, 59, 1, 0, 0);
        SpanCopier y = Check.with("delay 1;wait 60;", 1);
        y.ticks(4);
        crowd(y);
        y.ticks(1);
        Check.now(y, "3=40 1=4");
        Check.unit(y, 39, 5, 0, 0, 0, 0, 0);
    }

    /** Single places that lack, every other one, so many; EOF has come then. */
    private static SpanCopier holes(int many) {
        SpanCopier x = Check.with("chunk 1;delay 1;wait 60;", 2 * many + 1);
        for (int i = 0; i <= 2 * many; i++) {
            x.ticks(1);
            if (i % 2 == 0 && i < 2 * many) {
                x.lose(0);
            }
        }
        x.ticks(2);
        Check.now(x, "9=1 4=" + many);
        return x;
    }

    private static void eightSpans() {
        Check.says("NAK (SPANS: the first 8 of those meant)");
        for (int many = 1; many <= 10; many++) {
            SpanCopier x = holes(many);
            int told = Math.min(many, 8);
            Check.unit(x, 0, 2, 1, 0, told, 0, 0);
            for (int i = 0; i < told; i++) {
                Check.is("span(0, " + i + ", 0)", x.span(0, i, 0), 2 * i);
                Check.is("span(0, " + i + ", 1)", x.span(0, i, 1), 2 * i + 1);
            }
            Check.is("span behind the last", x.span(0, told, 0), -1);
            x.prompt();
            x.ticks(1);
            Check.is("resends", x.now(5), told - 1);
            x.ticks(1);
            Check.unit(x, 0, 2, 1, 0, told, 0, 0);
            Check.is("a NAK by PROMPT", unitsOf(x, NAK), 1);
        }
    }

    private static void touchingGaps() {
        Check.says("none touches another one (who touch are one)");
        SpanCopier x = Check.with("chunk 2;delay 1;policy asked;wait 60;", 8);
        x.ticks(1);
        x.lose(0);
        x.ticks(1);
        x.late(0, 4);
        x.ticks(1);
        x.lose(1);
        x.ticks(1);
        x.lose(1);
        x.ticks(2);
        Check.now(x, "0=6 4=1 6=8 9=1");
        Check.is("gap(0, 0)", x.gap(0, 0), 0);
        Check.is("gap(0, 1)", x.gap(0, 1), 8);
        x.ticks(1);
        Check.now(x, "4=2");
        Check.is("gap(0, 1)", x.gap(0, 1), 2);
        Check.is("gap(1, 0)", x.gap(1, 0), 4);
        Check.is("gap(1, 1)", x.gap(1, 1), 8);
    }

    /** By a CRASH the TAKER asks for places 0 to 4, then for 4 to 8: 2 to 8 are left as one. */
    private static void touchingResends() {
        SpanCopier x = Check.with("chunk 2;delay 1;policy now;save 60;wait 60;", 12);
        x.ticks(1);
        x.late(0, 4);
        x.ticks(1);
        x.late(1, 3);
        x.ticks(2);
        Check.unit(x, 2, 2, 1, 0, 1, 0, 0);
        x.late(2, 3);
        x.lose(3);
        Check.is("crash()", x.crash(), 0);
        x.ticks(2);
        Check.now(x, "0=6 6=10 4=1");
        Check.unit(x, 1, 2, 1, 0, 1, 0, 0);
        Check.is("span(1, 0, 0)", x.span(1, 0, 0), 4);
        Check.is("span(1, 0, 1)", x.span(1, 0, 1), 8);
        x.late(1, 1);
        x.ticks(1);
        x.lose(2);
        Check.now(x, "0=7 3=2 5=0");
        x.ticks(1);
        Check.now(x, "0=8 5=1");
        Check.is("resend(0, 0)", x.resend(0, 0), 2);
        Check.is("resend(0, 1)", x.resend(0, 1), 8);
    }

    /** The same NAK three times in one TICK: each place is SENT again once. */
    private static void resendsAskedForTwice() {
        Check.says("SPANS of it are RESENDS, too.");
        SpanCopier x = Check.with("chunk 1;delay 1;wait 60;", 4);
        x.ticks(1);
        x.lose(0);
        x.ticks(1);
        x.lose(0);
        x.ticks(1);
        x.lose(0);
        x.ticks(3);
        Check.unit(x, 0, 2, 1, 0, 1);
        x.twice(0);
        x.twice(0);
        x.ticks(1);
        Check.now(x, "5=1 10=8");
        Check.is("resend(0, 0)", x.resend(0, 0), 1);
        Check.is("resend(0, 1)", x.resend(0, 1), 3);
        x.ticks(2);
        Check.now(x, "5=0 10=10 1=3");
        x.ticks(1);
        Check.now(x, "5=0 10=10 4=0 2=2 3=0");
    }

    private static void lastTick() {
        Check.says("A TICK (0 to 1999; 2000: all are over)");
        SpanCopier x = Check.with("chunk 1;", 5);
        for (int i = 0; i < 33; i++) {
            x.ticks(60);
        }
        Check.is("ticks(19)", x.ticks(19), 19);
        Check.now(x, "0=1999");
        Check.is("ticks(2)", x.ticks(2), 1);
        Check.now(x, "0=2000");
        Check.refused(x, "ticks(1)", () -> x.ticks(1), 0);
        Check.refused(x, "ticks(60)", () -> x.ticks(60), 0);
        Check.refused(x, "drawn(60, 1)", () -> x.drawn(60, 1), 0);
        Check.is("undo()", x.undo(), 7);
        Check.now(x, "0=1999");
    }

    /** A spoilt copy that comes in TICK 2 is taken, ahead of EOF; later ones are not, whatever the TAKER is. */
    private static void dataToWhom() {
        Check.says("DATA, if it is IDLE or TAKING: it is TAKING");
        for (int n = 1; n <= 12; n++) {
            SpanCopier x = Check.with("delay 1;wait 60;save 60;act make a;act make b;", 1);
            x.ticks(1);
            x.twice(0);
            x.spoil(1);
            x.late(1, n);
            x.ticks(20);
            Check.is("taken(0) by " + n, x.taken(0), n == 1 ? 254 : 1);
            Check.is("CODE by " + n, x.now(8), n == 1 ? 1 : 0);
            Check.is("the TAKER by " + n, x.now(2), n == 1 ? 5 : 4);
        }
        SpanCopier x = Check.with("delay 1;wait 60;", 1);
        x.ticks(1);
        x.twice(0);
        x.late(1, 20);
        x.spoil(0);
        x.ticks(30);
        Check.now(x, "2=5 8=1 6=1");
        Check.is("taken(0) of a FAILED one", x.taken(0), 254);
    }

    private static void fromBeyondEnd() {
        Check.says("if it is from beyond END, from END on to that place is a GAP");
        SpanCopier x = Check.with("chunk 1;delay 1;policy now;wait 60;", 5);
        x.ticks(4);
        Check.now(x, "6=3 4=0 10=4");
        x.lose(0);
        x.ticks(2);
        Check.now(x, "6=5 4=1 10=7");
        Check.is("gap(0, 0)", x.gap(0, 0), 3);
        Check.is("gap(0, 1)", x.gap(0, 1), 4);
        Check.unit(x, 0, 2, 1, 0, 1);
    }

    private static void endIfFarther() {
        Check.says("END is the end of the DATA, if that is farther");
        SpanCopier x = Check.with("chunk 3;delay 1;wait 60;", 9);
        x.ticks(1);
        x.twice(0);
        x.late(1, 1);
        x.ticks(1);
        Check.now(x, "6=3");
        x.twice(1);
        x.lose(1);
        x.ticks(1);
        Check.now(x, "6=6 4=0");
        x.twice(0);
        x.late(1, 1);
        x.ticks(1);
        Check.now(x, "6=9");
        x.ticks(1);
        Check.now(x, "6=9 4=0 9=1");
    }

    private static void bytesAreThese() {
        Check.says("its bytes are there (those that were there, too, are these now)");
        SpanCopier x = Check.with("chunk 4;delay 1;wait 60;", 12);
        x.ticks(1);
        x.twice(0);
        x.spoil(1);
        x.ticks(1);
        Check.is("a spoilt one behind", x.taken(0), 254);
        x.twice(0);
        x.spoil(0);
        x.ticks(1);
        Check.is("a spoilt one ahead", x.taken(4), 5);
        Check.says("each bit of its first byte is the other one");
        String bytes = "\0\1\u00ff\2\u0080\3\u0055\4";
        SpanCopier y = with("chunk 2;delay 1;wait 60;", bytes);
        int[] due = {255, 1, 0, 2, 127, 3, 170, 4};
        for (int i = 0; i < 4; i++) {
            y.ticks(1);
            y.spoil(0);
        }
        y.ticks(1);
        for (int i = 0; i < 8; i++) {
            Check.is("taken(" + i + ")", y.taken(i), due[i]);
        }
        SpanCopier z = Check.with("chunk 1;delay 1;", 1);
        z.ticks(1);
        z.spoil(0);
        z.ticks(1);
        Check.is("one byte alone", z.taken(0), 254);
    }

    private static void naksBeginAgain() {
        Check.says("if some were (places from the END ahead on were not), 0 NAKS were SENT so far, and WAIT is as told");
        SpanCopier x = Check.with("chunk 1;delay 1;wait 4;tries 1;", 3);
        x.ticks(1);
        x.late(0, 4);
        x.ticks(1);
        x.lose(1);
        x.ticks(3);
        Check.now(x, "0=5 4=1 9=1 3=3");
        x.lose(1);
        x.ticks(3);
        Check.now(x, "0=8 4=1 2=1 3=0");
        x.ticks(1);
        Check.now(x, "0=9 2=1 3=1");
        Check.unit(x, 0, 2, 1, 0, 1);
        Check.is("span(0, 0, 0)", x.span(0, 0, 0), 1);
        x.lose(0);
        x.ticks(3);
        Check.now(x, "0=12 2=1");
        x.ticks(1);
        Check.now(x, "0=13 2=3 8=2");
        // A copy of what is there fills nothing: WAIT goes on.
        SpanCopier y = Check.with("chunk 1;delay 1;wait 4;tries 1;", 2);
        y.ticks(1);
        y.lose(0);
        y.ticks(1);
        y.twice(0);
        y.late(1, 2);
        y.ticks(2);
        Check.now(y, "0=4 4=1 9=1 3=3");
        y.lose(1);
        y.ticks(2);
        Check.now(y, "0=6 2=1 4=1");
        y.ticks(1);
        Check.now(y, "0=7 2=3 8=2");
    }

    /** EOF comes in TICKS 2 and 4: the second brings an ACK alone, and WAIT runs on to TICK 5. */
    private static void eofOnce() {
        Check.says("EOF, if it is IDLE or TAKING, and does not know it");
        SpanCopier x = Check.with("delay 1;wait 4;tries 1;", 1);
        x.ticks(1);
        x.lose(0);
        x.ticks(1);
        x.twice(0);
        x.late(1, 2);
        x.ticks(1);
        Check.now(x, "2=1 9=1 4=1 6=1 3=3 10=4");
        x.lose(1);
        x.ticks(2);
        Check.now(x, "0=5 2=1 3=1 10=5");
        Check.unit(x, 0, 3, 1, 0);
        x.ticks(1);
        Check.now(x, "0=6 2=3 8=2");
    }

    private static void eofToAll() {
        Check.says("then, whatever it is, ACK of EOF is SENT");
        for (int spoilt = 0; spoilt < 2; spoilt++) {
            for (int n = 1; n <= 12; n++) {
                SpanCopier x = Check.with("delay 1;wait 60;act make a;act make b;", 1);
                x.ticks(1);
                if (spoilt == 1) {
                    x.spoil(0);
                }
                x.ticks(1);
                x.twice(0);
                x.late(1, n);
                x.ticks(n);
                int sent = unitsOf(x, 3);
                Check.is("an ACK under way, by " + n, sent, n == 1 ? 1 : 0);
                x.ticks(1);
                Check.is("another ACK, by " + n, unitsOf(x, 3), 1);
                x.ticks(20);
                Check.now(x, spoilt == 1 ? "1=5 2=5 8=1 10=6" : "1=4 2=4 8=0 10=6");
                Check.is("store()", x.store(), spoilt == 1 ? 0 : 3);
            }
        }
    }

    private static void eofLong() {
        Check.says("from END on to LONG is a GAP (if LONG is more), END is LONG");
        SpanCopier x = Check.with("chunk 4;delay 1;wait 60;", 9);
        x.ticks(2);
        x.ticks(1);
        x.lose(0);
        x.ticks(2);
        Check.now(x, "6=9 4=1 9=1");
        Check.is("gap(0, 0)", x.gap(0, 0), 8);
        Check.is("gap(0, 1)", x.gap(0, 1), 9);
        SpanCopier y = Check.with("chunk 4;delay 1;wait 60;", 9);
        y.ticks(5);
        Check.now(y, "6=9 4=0 9=1 2=2 10=5");
        SpanCopier z = Check.with("chunk 32;delay 1;wait 60;", 9);
        z.ticks(1);
        z.lose(0);
        z.ticks(2);
        Check.now(z, "6=9 4=1 9=1 2=1");
        Check.is("gap(0, 0)", z.gap(0, 0), 0);
        Check.is("gap(0, 1)", z.gap(0, 1), 9);
    }

    private static void askedNone() {
        Check.says("by 'asked' none of this");
        SpanCopier x = Check.with("delay 1;wait 1;tries 1;policy asked;", 1);
        x.ticks(1);
        x.lose(0);
        x.ticks(2);
        Check.now(x, "0=3 2=1 4=1 9=1 3=1 10=3");
        Check.unit(x, 0, 3);
        Check.says("if there are, and not by policy 'asked'");
        for (int i = 0; i < 10; i++) {
            x.ticks(60);
        }
        Check.now(x, "0=603 1=5 2=1 4=1 8=-1 3=0");
    }

    /** PROMPT goes ahead of DATA; by LATE it comes to each state. TAKING is the TAKER behind TICK 1 alone. */
    private static void promptIfTaking() {
        Check.says("PROMPT, if it is TAKING: a NAK of all GAPS is SENT (also of none)");
        for (int n = 0; n <= 12; n++) {
            SpanCopier x = Check.with("delay 1;wait 60;act make a;act make b;", 1);
            x.prompt();
            if (n > 0) {
                x.late(0, n);
            }
            x.ticks(30);
            Check.is("UNITS SENT by " + n, x.now(10), n == 1 ? 7 : 6);
            Check.now(x, "1=4 2=4");
        }
        SpanCopier x = Check.with("delay 1;wait 60;", 1);
        x.prompt();
        x.late(0, 1);
        x.ticks(3);
        Check.unit(x, 0, 2, 1, 0, 0, 0, 0);
        Check.is("span(0, 0, 0)", x.span(0, 0, 0), -1);
    }

    private static void ackOfFinIfFinishing() {
        Check.says("ACK of FIN, if it is FINISHING: it is DONE by CODE 0, else FAILED.");
        SpanCopier x = Check.with("delay 1;wait 60;save 60;", 1);
        x.ticks(5);
        Check.now(x, "1=4 2=3 3=1");
        Check.unit(x, 0, 5);
        Check.is("crash()", x.crash(), 0);
        x.ticks(1);
        Check.now(x, "1=4 2=0 3=0");
        SpanCopier y = Check.with("delay 1;wait 60;save 4;act make a;", 1);
        y.ticks(6);
        Check.now(y, "2=3 3=1 1=4");
        y.crash();
        Check.now(y, "2=2");
        y.ticks(1);
        Check.now(y, "2=3 1=4 8=0");
        Check.unit(y, 0, 4, 1, 0, 0);
        y.ticks(2);
        Check.now(y, "2=4 3=0");
    }

    private static void nakToDone() {
        Check.says("NAK, if it is SENDING, WAITING, AWAITING: SPANS of it are RESENDS, too.");
        SpanCopier x = Check.with("chunk 1;delay 1;policy now;wait 60;", 2);
        x.ticks(1);
        x.late(0, 2);
        x.ticks(2);
        Check.unit(x, 1, 2, 1, 0, 1);
        x.late(1, 50);
        x.ticks(7);
        Check.now(x, "1=4 2=4 3=1 10=7");
        x.ticks(50);
        Check.now(x, "3=0 5=0 10=7");
    }

    private static void ackOfEofIfWaiting() {
        Check.says("ACK of EOF, if it is WAITING: it is AWAITING.");
        SpanCopier x = Check.with("delay 1;wait 60;act make a;", 1);
        x.ticks(3);
        x.twice(0);
        x.late(1, 10);
        x.ticks(1);
        Check.now(x, "1=3");
        x.ticks(9);
        Check.now(x, "0=13 1=4 3=1");
        x.ticks(1);
        Check.now(x, "1=4 3=0");
    }

    private static void finToAll() {
        Check.says("FIN, if it is SENDING, WAITING, AWAITING: it is DONE by CODE 0, else FAILED; then, whatever it is,"
                + " ACK of FIN is SENT.");
        SpanCopier x = Check.with("delay 1;wait 60;", 1);
        x.ticks(3);
        x.lose(0);
        x.ticks(1);
        Check.now(x, "1=2 2=3");
        x.twice(0);
        x.late(1, 9);
        x.ticks(1);
        Check.now(x, "0=5 1=4");
        Check.unit(x, 1, 5, 0, 0);
        x.ticks(9);
        Check.now(x, "0=14 1=4 2=4 3=1");
        Check.unit(x, 0, 5, 0, 0);
        // One that FAILED long ago answers as well.
        SpanCopier y = Check.with("delay 9;wait 1;tries 1;", 1);
        y.ticks(3);
        Check.now(y, "1=5");
        y.ticks(17);
        Check.now(y, "0=20 1=5 2=5 3=1");
        y.ticks(1);
        Check.now(y, "0=21 1=5 2=5 3=1");
        Check.unit(y, 0, 5, 0, 8);
    }

    private static void patience() {
        Check.says("Whenever one comes to it, PATIENCE is 6 times 'wait'.");
        SpanCopier x = Check.with("delay 1;wait 1;tries 9;policy asked;", 1);
        x.ticks(1);
        x.lose(0);
        x.ticks(3);
        Check.says("If it is AWAITING: PATIENCE is 1 less; at 0 it is FAILED.");
        // The first ACK came in TICK 3, another one comes in TICK 4.
        Check.now(x, "0=4 1=3 3=1");
        x.image(0);
        x.ticks(5);
        Check.now(x, "0=9 1=3");
        x.ticks(1);
        Check.now(x, "0=10 1=5");
        x.restore(0);
        x.ticks(1);
        x.prompt();
        x.ticks(3);
        Check.now(x, "0=8 1=3 3=1");
        x.lose(0);
        x.ticks(4);
        Check.now(x, "0=12 1=3");
        x.ticks(1);
        Check.now(x, "0=13 1=5");
        SpanCopier y = Check.with("delay 1;wait 60;tries 1;policy asked;", 1);
        y.ticks(1);
        y.lose(0);
        for (int i = 0; i < 6; i++) {
            y.ticks(60);
        }
        y.ticks(1);
        Check.now(y, "0=362 1=3");
        y.ticks(1);
        Check.now(y, "0=363 1=5 2=1");
    }

    private static void chunksOfResends() {
        Check.says("DATA of the first 'chunk' places of the first one (or all, if fewer) is SENT, these are none any"
                + " more");
        SpanCopier x = Check.with("chunk 4;delay 1;wait 60;", 14);
        x.ticks(2);
        for (int i = 0; i < 3; i++) {
            x.lose(0);
            x.ticks(1);
        }
        // EOF comes in TICK 5, its NAK of 4 to 14 in TICK 6.
        x.ticks(1);
        Check.now(x, "0=6 4=1");
        x.ticks(1);
        Check.unit(x, 0, 0, 0, 0, 4, 4, 0);
        Check.is("resend(0, 0)", x.resend(0, 0), 8);
        Check.is("resend(0, 1)", x.resend(0, 1), 14);
        x.ticks(1);
        Check.unit(x, 0, 0, 0, 0, 8, 4, 0);
        Check.is("resend(0, 0)", x.resend(0, 0), 12);
        x.ticks(1);
        Check.unit(x, 0, 0, 0, 0, 12, 2, 0);
        Check.now(x, "5=0 1=3");
        x.ticks(1);
        Check.now(x, "3=0 4=0 2=2 7=14");
    }

    private static void chunksOfFile() {
        Check.says("DATA of the next 'chunk' places of the FILE (or those that are left), if some are left, else EOF"
                + " is SENT");
        int[][] cases = {{32, 1}, {32, 31}, {32, 32}, {32, 33}, {32, 240}, {1, 1}, {1, 2}, {1, 240}, {7, 238}, {7, 239}};
        for (int[] c : cases) {
            SpanCopier x = Check.with("delay 1;wait 60;chunk " + c[0] + ";", c[1]);
            int from = 0;
            while (from < c[1]) {
                int many = Math.min(c[0], c[1] - from);
                x.ticks(1);
                Check.unit(x, 0, 0, 0, 0, from, many, 0);
                from += many;
                Check.is("now(7)", x.now(7), from);
                Check.is("SENDING", x.now(1), 1);
            }
            x.ticks(1);
            Check.unit(x, 0, 1, 0, 0, c[1], 0, 0);
            Check.is("WAITING", x.now(1), 2);
            Check.is("now(7)", x.now(7), c[1]);
        }
    }

    /** EOF in TICK 1 and each 'wait' TICKS; FAILED 'wait' TICKS behind the last. */
    private static void triesOfEof() {
        Check.says("WAIT is 1 less; at 0: if EOF was SENT as often as 'tries', it is FAILED; else EOF is SENT once more,"
                + " WAIT is as told");
        for (int tries : new int[] {1, 2, 3, 9}) {
            for (int wait : new int[] {1, 2, 5, 60}) {
                SpanCopier x = Check.with("delay 9;tries " + tries + ";wait " + wait + ";", 1);
                int found = 0;
                for (int i = 0; i < 1 + tries * wait; i++) {
                    x.ticks(1);
                    found += loseAll(x, EOF);
                }
                Check.is("EOFS", found, tries);
                Check.is("the SENDER ahead", x.now(1), 2);
                x.ticks(1);
                Check.is("the SENDER behind", x.now(1), 5);
                Check.is("no EOF more", loseAll(x, EOF), 0);
                Check.is("UNITS SENT", x.now(10), 1 + tries);
            }
        }
    }

    /** NAK of 0 to 3 comes in TICK 7 to a SENDER that is WAITING since TICK 5. */
    private static SpanCopier waitingWithResends(int tries) {
        SpanCopier x = Check.with("chunk 1;delay 1;policy now;wait 3;tries " + tries + ";", 5);
        for (int i = 0; i < 3; i++) {
            x.ticks(1);
            x.lose(0);
        }
        x.ticks(2);
        Check.unit(x, 0, 2, 1, 0, 1);
        x.late(0, 2);
        x.ticks(1);
        Check.now(x, "0=6 1=2 3=2");
        x.lose(1);
        x.ticks(2);
        Check.now(x, "0=8 1=2 5=1 3=1");
        Check.unit(x, 0, 0, 0, 0, 0, 1, 0);
        x.ticks(1);
        return x;
    }

    private static void waitWithResends() {
        Check.says("Whether a RESEND went or not: if it is WAITING (from the TICK ahead on): WAIT is 1 less");
        SpanCopier x = waitingWithResends(1);
        Check.now(x, "0=9 1=5 5=1 3=1");
        Check.is("what is left stays", x.resend(0, 0), 2);
        Check.unit(x, 0, 0, 0, 0, 1, 1, 0);
        x = waitingWithResends(2);
        Check.now(x, "0=9 1=2 5=1 3=2");
        Check.unit(x, 0, 0, 0, 0, 1, 1, 0);
        Check.unit(x, 1, 1, 0, 0, 5, 0, 0);
    }

    /** Two spoilt bytes of one column that make 255 together: the SUM does not tell. */
    private static void sameSum() {
        Check.says("if the SUM of its bytes is another one, CODE is 1");
        for (int second : new int[] {154, 155, 156}) {
            SpanCopier x = with("chunk 4;delay 1;wait 60;", "d\1\2\3" + (char) second + "\4\5\6");
            x.ticks(1);
            x.spoil(0);
            x.ticks(1);
            x.spoil(0);
            x.ticks(2);
            Check.is("taken(0)", x.taken(0), 155);
            Check.is("taken(4)", x.taken(4), 255 - second);
            x.ticks(10);
            Check.is("CODE", x.now(8), second == 155 ? 0 : 1);
            Check.is("the TAKER", x.now(2), second == 155 ? 4 : 5);
        }
    }

    /** EOF comes in TICK 2, in which WAIT runs already: a NAK then and each 'wait' TICKS. */
    private static void triesOfNak() {
        Check.says("at 0: if as many NAKS as 'tries', or more, were SENT so far, CODE is 2, it is FINISHING; else a NAK"
                + " of all GAPS is SENT, one more was, WAIT is as told");
        for (String policy : new String[] {"now", "end"}) {
            for (int tries : new int[] {1, 2, 3, 9}) {
                for (int wait : new int[] {2, 5, 60}) {
                    SpanCopier x = Check.with("delay 1;tries " + tries + ";wait " + wait + ";policy " + policy + ";", 1);
                    x.ticks(1);
                    x.lose(0);
                    x.ticks(1);
                    int found = 0;
                    for (int i = 2; i < 1 + tries * wait; i++) {
                        x.ticks(1);
                        found += loseAll(x, NAK);
                    }
                    Check.is("NAKS", found, tries);
                    Check.is("TAKING", x.now(2), 1);
                    Check.is("CODE", x.now(8), -1);
                    x.ticks(1);
                    Check.is("FINISHING", x.now(2), 3);
                    Check.is("CODE", x.now(8), 2);
                    Check.is("no NAK more", unitsOf(x, NAK), 0);
                    Check.is("FIN", unitsOf(x, FIN), 1);
                }
            }
        }
        // WAIT of 1 is over in the TICK in which EOF came.
        SpanCopier x = Check.with("delay 1;tries 1;wait 1;", 1);
        x.ticks(1);
        x.lose(0);
        x.ticks(2);
        Check.now(x, "0=3 2=3 8=2");
        SpanCopier y = Check.with("delay 1;tries 2;wait 1;", 1);
        y.ticks(1);
        y.lose(0);
        y.ticks(2);
        Check.now(y, "0=3 2=1");
        Check.is("two NAKS", unitsOf(y, NAK), 2);
    }

    private static void actingAtOnce() {
        Check.says("and nothing more in this TICK (if none is told, the first ACT comes in the first TICK)");
        SpanCopier x = Check.with("delay 1;wait 60;act make a;", 1);
        x.ticks(3);
        Check.now(x, "2=2");
        Check.is("journal(0)", x.journal(0), -1);
        x.ticks(1);
        Check.is("journal(0)", x.journal(0), 0);
        SpanCopier y = Check.with("delay 1;wait 60;to b;act make a;", 1);
        y.ticks(3);
        Check.is("store()", y.store(), 0);
        y.ticks(1);
        Check.is("store()", y.store(), 1);
        Check.is("journal(0)", y.journal(0), -1);
        y.ticks(1);
        Check.is("store()", y.store(), 3);
        Check.is("journal(0)", y.journal(0), 0);
        SpanCopier z = Check.with("delay 1;wait 60;has b;to b;", 1);
        z.ticks(4);
        Check.is("store() that had it", z.store(), 1);
        Check.now(z, "2=2");
        Check.says("If there is none: CODE is 0, it is FINISHING.");
        z.ticks(1);
        Check.now(z, "2=3 8=0");
        SpanCopier w = Check.with("delay 1;wait 60;", 1);
        w.ticks(3);
        Check.now(w, "2=2 8=-1");
        w.ticks(1);
        Check.now(w, "2=3 8=0");
    }

    /** SAVED behind TICKS 2 and 5: each CRASH goes back to ACTING, and nothing is done again. */
    private static void toOnce() {
        Check.says("first, once (the JOURNAL tells that it was done), the NAME that 'to' tells is in the STORE, if one is"
                + " told");
        SpanCopier x = Check.with("delay 1;wait 60;save 3;to a;act drop a;act make b;", 1);
        x.ticks(3);
        int[] stores = {1, 0, 2, 2, 2};
        for (int i = 0; i < stores.length; i++) {
            Check.is("crash() " + i, x.crash(), 0);
            Check.now(x, "2=2");
            x.ticks(1);
            Check.is("store() " + i, x.store(), stores[i]);
            Check.is("the TAKER " + i, x.now(2), i < 3 ? 2 : 3);
        }
        Check.is("journal(0)", x.journal(0), 0);
        Check.is("journal(1)", x.journal(1), 0);
        // A TAKER that knows no EOF any more is told it once more: it is ACTING again, with what is written.
        SpanCopier y = Check.with("delay 1;wait 6;tries 9;save 2;to a;act drop a;act make b;", 1);
        y.ticks(2);
        y.ticks(1);
        y.lose(0);
        Check.now(y, "0=3 2=2 1=2");
        y.crash();
        Check.now(y, "2=1 9=0 6=1");
        y.ticks(5);
        Check.now(y, "0=8 2=1 1=2 3=1");
        Check.is("store()", y.store(), 0);
        y.ticks(1);
        Check.now(y, "0=9 2=2");
        y.ticks(1);
        Check.is("store()", y.store(), 1);
        // Back to IDLE behind 'to' and the first ACT: the whole FILE goes once more, then the second ACT alone.
        SpanCopier z = Check.with("delay 1;wait 6;tries 9;save 60;to a;act drop a;act make b;", 1);
        z.ticks(3);
        z.lose(0);
        z.ticks(2);
        Check.is("journal(0)", z.journal(0), 0);
        z.crash();
        Check.now(z, "0=5 1=2 2=0");
        z.ticks(6);
        Check.now(z, "0=11 2=2");
        Check.is("store()", z.store(), 0);
        z.ticks(1);
        Check.is("store()", z.store(), 2);
        Check.is("journal(1)", z.journal(1), 0);
        z.ticks(1);
        Check.now(z, "2=3 8=0");
    }

    private static void notTried() {
        Check.says("0 it was done; 1 it could not be; 2 it was not tried (one ahead of it went 1 or 2)");
        for (int bad = 0; bad < 6; bad++) {
            StringBuilder order = new StringBuilder("delay 1;wait 60;has z;");
            for (int i = 0; i < 6; i++) {
                order.append("act make ").append(i == bad ? 'z' : (char) ('a' + i)).append(';');
            }
            SpanCopier x = Check.with(order.toString(), 1);
            x.ticks(9);
            int store = 1;
            for (int i = 0; i < 6; i++) {
                Check.is("journal(" + i + ") by " + bad, x.journal(i), i < bad ? 0 : i == bad ? 1 : 2);
                store |= i < bad ? 2 << i : 0;
            }
            Check.is("store() by " + bad, x.store(), store);
            x.ticks(1);
            Check.now(x, "2=3 8=0");
        }
    }

    private static void sixActs() {
        Check.says("then the next ACT that is not in the JOURNAL, one in a TICK");
        SpanCopier x = Check.with("delay 1;wait 60;save 3;act make a;act make b;act make c;act make d;act make e;"
                + "act drop a;", 1);
        x.ticks(3);
        for (int i = 0; i < 6; i++) {
            Check.now(x, "2=2");
            x.ticks(1);
            Check.is("journal(" + i + ")", x.journal(i), 0);
            Check.is("journal(" + (i + 1) + ")", x.journal(i + 1), -1);
            x.crash();
        }
        Check.is("store()", x.store(), 0b11110);
        x.ticks(1);
        Check.now(x, "2=3 8=0");
        Check.is("store()", x.store(), 0b11110);
    }

    /** Each ACT on each STORE of two NAMES: how it went and what is there then. */
    private static void actsOnTheStore() {
        Check.says("'make' a NAME, if it is not in the STORE: it is. 'drop' one that is: it is not. 'move' the first,"
                + " that is, to the second, that is not: it is there instead. 'copy' likewise: both are.");
        String[] acts = {"act make a;", "act drop a;", "act move a b;", "act copy a b;"};
        // By what was there (a 1, b 2): what is there then; NONE: it could not be.
        int[][] due = {{1, -1, 3, -1}, {-1, 0, -1, 2}, {-1, 2, -1, -1}, {-1, 3, -1, -1}};
        for (int act = 0; act < 4; act++) {
            for (int had = 0; had < 4; had++) {
                String has = ((had & 1) == 1 ? "has a;" : "") + ((had & 2) == 2 ? "has b;" : "");
                SpanCopier x = Check.with("delay 1;wait 60;" + acts[act] + "act make d;" + has, 1);
                String which = acts[act] + " on " + had;
                int b = act < 2 ? 4 : 2;
                int d = act < 2 ? 2 : 4;
                boolean could = due[act][had] >= 0;
                int then = could ? due[act][had] : had;
                int store = (then & 1) + ((then & 2) == 2 ? b : 0);
                x.ticks(4);
                Check.is(which, x.journal(0), could ? 0 : 1);
                Check.is("store() behind " + which, x.store(), store);
                x.ticks(1);
                Check.is("the next behind " + which, x.journal(1), could ? 0 : 2);
                Check.is("store() behind the next of " + which, x.store(), could ? store + d : store);
            }
        }
    }

    /** FIN in TICK 3 and each 'wait' TICKS; FAILED 'wait' TICKS behind the last. */
    private static void triesOfFin() {
        Check.says("if FIN was SENT as often as 'tries', it is FAILED; else FIN is SENT once more, WAIT is as told");
        for (int tries : new int[] {1, 2, 3, 9}) {
            for (int wait : new int[] {1, 2, 5, 60}) {
                SpanCopier x = Check.with("delay 1;tries " + tries + ";wait " + wait + ";", 1);
                x.ticks(3);
                int found = 0;
                for (int i = 3; i < 3 + tries * wait; i++) {
                    x.ticks(1);
                    found += loseAll(x, FIN);
                }
                Check.is("FINS", found, tries);
                Check.is("FINISHING", x.now(2), 3);
                x.ticks(1);
                Check.is("FAILED", x.now(2), 5);
                Check.is("no FIN more", unitsOf(x, FIN), 0);
                Check.is("CODE", x.now(8), 0);
            }
        }
    }

    private static void saves() {
        Check.says("if the number of the next TICK is divided by 'save', all that the TAKER is and has (but STORE and"
                + " JOURNAL) is SAVED");
        for (int save : new int[] {1, 2, 7, 59, 60}) {
            for (int n : new int[] {2, save - 1, save, save + 1, 2 * save - 1, 2 * save, 2 * save + 1}) {
                if (n < 2) {
                    continue;
                }
                SpanCopier x = Check.with("chunk 1;delay 1;wait 60;save " + save + ";", 200);
                for (int left = n; left > 0; left -= 60) {
                    x.ticks(Math.min(left, 60));
                }
                Check.is("END at " + n, x.now(6), n - 1);
                Check.is("crash()", x.crash(), 0);
                int at = n / save * save;
                Check.is("END of " + at + " by " + n, x.now(6), Math.max(0, at - 1));
                Check.is("the TAKER of " + at, x.now(2), at > 1 ? 1 : 0);
                Check.is("taken(0) of " + at, x.taken(0), at > 1 ? 1 : -1);
            }
        }
    }

    private static void savedAtFirst() {
        Check.says("(at first: that it is IDLE, END 0)");
        SpanCopier x = Check.with("chunk 1;delay 1;wait 60;save 10;", 200);
        x.ticks(20);
        Check.file(x, 100);
        x.ticks(5);
        Check.now(x, "2=1 6=4");
        x.crash();
        Check.now(x, "2=0 6=0 4=0 9=0");
        Check.is("taken(0)", x.taken(0), -1);
        Check.is("sum(1)", x.sum(1), 0);
        x.ticks(20);
        Check.order(x, "chunk 1;delay 1;wait 60;save 10;");
        Check.file(x, 100);
        x.ticks(5);
        x.crash();
        Check.now(x, "2=0 6=0 4=0");
    }

    /** The TAKER's count of NAKS, of FINS and its WAIT are SAVED too. */
    private static void crashStays() {
        Check.says("the TAKER is and has what is SAVED (STORE and JOURNAL stay; UNITS under way, too)");
        SpanCopier x = Check.with("delay 1;tries 1;wait 10;save 5;", 1);
        x.ticks(1);
        x.lose(0);
        x.ticks(2);
        loseAll(x, NAK);
        x.ticks(6);
        loseAll(x, NAK);
        // SAVED behind TICK 4 with a WAIT of 7; it is 3 now.
        Check.now(x, "0=9 2=1 4=1");
        x.crash();
        x.image(0);
        x.ticks(1);
        loseAll(x, NAK);
        x.ticks(5);
        loseAll(x, NAK);
        Check.now(x, "0=15 2=1");
        x.ticks(1);
        Check.now(x, "0=16 2=3 8=2");
        SpanCopier y = Check.with("delay 1;tries 2;wait 3;save 5;act make a;", 1);
        y.ticks(5);
        Check.now(y, "2=3 8=0");
        y.lose(0);
        y.ticks(3);
        Check.now(y, "0=8 2=3 3=1");
        y.lose(0);
        y.crash();
        Check.now(y, "2=3 8=0");
        Check.is("store()", y.store(), 1);
        Check.is("journal(0)", y.journal(0), 0);
        y.ticks(2);
        Check.now(y, "0=10 2=3 3=0");
        y.ticks(1);
        Check.now(y, "0=11 2=3 3=1");
        Check.unit(y, 0, 4, 1, 0, 0);
    }
}
