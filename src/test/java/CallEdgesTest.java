import java.util.function.Consumer;
import java.util.function.ToIntFunction;

/** The edges that promises 1 to 14 name, sentence by sentence: the tape, the FILE, TICKS, what is done and undone. */
public final class CallEdgesTest {
    private static final int MIN = Integer.MIN_VALUE;
    private static final int MAX = Integer.MAX_VALUE;
    private static final String STORMY = "chunk 3;delay 3;wait 7;tries 2;save 4;policy now;has a;to b;"
            + "act make c;act move c d;act drop a;act copy d a;";

    public static void main(String[] args) {
        newObject();
        feed();
        feedHighestFirst();
        end();
        orderLines();
        faultOfTheLatest();
        fileLengths();
        fileRefused();
        fileAsNew();
        fileOverResends();
        fileOverActs();
        newOrder();
        ticks();
        lose();
        twice();
        late();
        spoil();
        prompt();
        crash();
        undoEach();
        undoOfOnePlace();
        undoOfActs();
        undoEight();
        undoNone();
        undoIsNotForRefused();
        manyCalls();
        Check.end();
    }

    /** Two DATA and a PROMPT under way, some of the FILE taken, a SENTENCE. */
    private static SpanCopier busy() {
        SpanCopier x = Check.with("chunk 4;delay 2;has a;act make b;", 20);
        Check.sentence(x, "data");
        x.ticks(4);
        x.prompt();
        Check.now(x, "3=3 2=1 6=8");
        return x;
    }

    private static void newObject() {
        Check.promise(1);
        Check.says("An ORDER without LINES; an empty tape.");
        SpanCopier x = new SpanCopier();
        String fresh = Check.picture(x);
        Check.is("order() of the empty tape", x.order(), 0);
        Check.same("behind an ORDER without LINES", Check.picture(x), fresh);
        Check.is("undo()", x.undo(), -1);
        Check.is("count(8)", x.count(8), 0);
        Check.is("end(1)", x.end(1), false);
        Check.is("file()", x.file(), -1);
    }

    private static void feed() {
        Check.says("NONE, and none come, if it would have more than 940.");
        SpanCopier x = busy();
        for (int i = 1; i <= 47; i++) {
            Check.is("feed", x.feed(0x20202020, 0x20202020, 0x20202020, 0x20202020, 0x20202020), 20 * i);
        }
        Check.refused(x, "feed to 960", () -> x.feed(1, 1, 1, 1, 1), -1);
        x.end(939);
        Check.refused(x, "feed to 959", () -> x.feed(1, 1, 1, 1, 1), -1);
        x.end(921);
        Check.refused(x, "feed to 941", () -> x.feed(1, 1, 1, 1, 1), -1);
        x.end(920);
        Check.is("feed to 940", x.feed(0, 0, 0, 0, 0), 940);
        x.end(900);
        Check.is("order() of what was there", x.order(), 0);
        Check.is("feed", x.feed(1, 2, 3, 4, 5), 20);
    }

    private static void feedHighestFirst() {
        Check.says("Twenty bytes come behind the tape, of each number the highest first");
        SpanCopier x = new SpanCopier();
        x.feed(MIN, MAX, -1, 0, 0x01020304);
        x.end(19);
        x.feed(0x09080706, -2, 0x80ff7f00, 1, 256);
        Check.is("count(8)", x.count(8), 39);
        Check.is("file()", x.file(), 39);
        x.ticks(10);
        int[] due = {128, 0, 0, 0, 127, 255, 255, 255, 255, 255, 255, 255, 0, 0, 0, 0, 1, 2, 3,
            9, 8, 7, 6, 255, 255, 255, 254, 128, 255, 127, 0, 0, 0, 0, 1, 0, 0, 1, 0};
        for (int i = 0; i < due.length; i++) {
            Check.is("taken(" + i + ")", x.taken(i), due[i]);
        }
    }

    private static void end() {
        Check.says("The tape has its first n bytes alone: true; false, if it has not so many, or n is below 0.");
        SpanCopier x = busy();
        Check.is("end(0) of an empty one", x.end(0), true);
        Check.refused(x, "end(1) of an empty one", () -> x.end(1) ? 1 : 0, 0);
        x.feed(1, 2, 3, 4, 5);
        for (int n : new int[] {-1, 21, 940, 941, MIN, MAX}) {
            Check.refused(x, "end(" + n + ")", () -> x.end(n) ? 1 : 0, 0);
        }
        Check.is("end(20)", x.end(20), true);
        Check.is("count(8)", x.count(8), 20);
        Check.is("end(1)", x.end(1), true);
        Check.is("end(2)", x.end(2), false);
        Check.is("end(1)", x.end(1), true);
        Check.is("end(0)", x.end(0), true);
        Check.is("count(8)", x.count(8), 0);
        for (int i = 0; i < 47; i++) {
            x.feed(i, i, i, i, i);
        }
        Check.is("end(941)", x.end(941), false);
        Check.is("end(940)", x.end(940), true);
    }

    private static void orderLines() {
        Check.says("how many LINES; -1 less the place of a FAULT: it stays");
        SpanCopier x = new SpanCopier();
        Check.is("as many LINES as can be", Check.order(x, "chunk 1;policy now;delay 1;wait 1;tries 1;save 1;to a;"
                + "has a;has b;has c;has d;has e;has f;has g;has h;has i;has j;" + Check.times("act move a b;", 6)), 23);
        Check.is("a FAULT at 0", Check.order(x, "?"), -1);
        Check.is("the ORDER stays", x.count(7), 6);
        Check.is("none", Check.order(x, ""), 0);
        Check.is("count(7)", x.count(7), 0);
    }

    private static void faultOfTheLatest() {
        Check.says("(a book() of -1000 leaves it); 0 without one and ahead of any.");
        SpanCopier x = new SpanCopier();
        Check.is("ahead of any", x.fault(), 0);
        x.book(2);
        Check.is("behind -1000", x.fault(), 0);
        String[] orders = {"has", "chunk 0;", "has a;has a;", Check.times("act make a;", 7)};
        for (int kind = 1; kind <= 4; kind++) {
            Check.order(x, orders[kind - 1]);
            Check.is("of order()", x.fault(), kind);
            for (int lives : new int[] {-1, 2, MIN, MAX}) {
                Check.refused(x, "book(" + lives + ")", () -> x.book(lives), -1000);
            }
            x.feed(0x61616161, 0, 0, 0, 0);
            Check.is("behind -1000 with a tape", x.book(2), -1000);
            Check.is("it is left", x.fault(), kind);
            x.end(0);
            x.file();
            x.restore(0);
            x.undo();
            Check.is("others leave it", x.fault(), kind);
            Check.is("an empty BOOK", x.book(0), -1);
            Check.is("none", x.fault(), 0);
        }
        Check.sentence(x, "(");
        Check.is("of sentence()", x.fault(), 1);
        Check.order(x, "");
        Check.is("none", x.fault(), 0);
        Check.book(x, "tick 0;", 1);
        Check.is("of book()", x.fault(), 2);
        Check.sentence(x, "out");
        Check.is("none", x.fault(), 0);
    }

    private static void fileLengths() {
        Check.says("The tape is the FILE now (1 to 240 bytes)");
        SpanCopier x = new SpanCopier();
        for (int many : new int[] {1, 2, 19, 20, 21, 239, 240}) {
            Check.is("file() of " + many, Check.file(x, many), many);
            Check.now(x, "0=0 1=1 2=0 11=" + many);
            Check.is("the tape is empty", x.count(8), 0);
        }
    }

    private static void fileRefused() {
        Check.says("NONE: not as told (nothing is changed then)");
        SpanCopier x = busy();
        Check.refused(x, "file() of an empty tape", x::file, -1);
        for (int many : new int[] {241, 260, 900, 940}) {
            Check.put(x, Check.times("x", many));
            Check.refused(x, "file() of " + many, x::file, -1);
            Check.is("the tape stays", x.count(8), many);
        }
        Check.is("end(240)", x.end(240), true);
        Check.is("file() of 240", x.file(), 240);
        Check.is("undo() of that alone", x.undo(), 3);
        Check.now(x, "0=4 11=20");
    }

    /** Both go on alike, whatever only later TICKS show: WAIT, tries, PATIENCE, what is SAVED, the JOURNAL. */
    private static void alike(String what, SpanCopier x, SpanCopier y) {
        Check.same(what, Check.world(x), Check.world(y));
        x.image(1);
        y.image(1);
        for (int i = 0; i < 4; i++) {
            x.ticks(1 + i);
            y.ticks(1 + i);
            Check.same(what + ", TICKS on,", Check.world(x), Check.world(y));
        }
        for (int seed = 0; seed < 4; seed++) {
            x.restore(1);
            y.restore(1);
            Check.is(what + ", crash()", x.crash(), y.crash());
            Check.same(what + ", behind a CRASH,", Check.world(x), Check.world(y));
            for (int i = 0; i < 4; i++) {
                x.drawn(20, seed + i);
                y.drawn(20, seed + i);
                Check.same(what + ", by draws,", Check.world(x), Check.world(y));
            }
        }
        x.restore(1);
        y.restore(1);
        Check.is(what + ", over()", x.over(), y.over());
    }

    private static void fileAsNew() {
        Check.says("all is as behind a new ORDER (the SENTENCE stays), the SENDER is SENDING");
        for (int seed = 0; seed < 30; seed++) {
            SpanCopier x = Check.with(STORMY, 40);
            for (int i = 0; i <= seed % 8; i++) {
                x.drawn(1 + seed * 2, seed);
            }
            Check.sentence(x, "out");
            Check.file(x, 30);
            SpanCopier y = Check.with(STORMY, 30);
            Check.sentence(y, "out");
            alike("a FILE behind others", x, y);
        }
    }

    /** One place that lacks and is to be sent again is forgotten by a new FILE, and by a new ORDER. */
    private static void fileOverResends() {
        for (int again = 0; again < 2; again++) {
            SpanCopier x = Check.with("chunk 1;delay 1;wait 60;", 4);
            x.ticks(1);
            x.lose(0);
            x.ticks(2);
            x.lose(0);
            x.ticks(4);
            Check.now(x, "4=2 5=1");
            if (again == 0) {
                Check.file(x, 4);
            } else {
                Check.order(x, "chunk 1;delay 1;wait 60;");
                Check.now(x, "4=0 5=0");
                Check.file(x, 4);
            }
            Check.now(x, "4=0 5=0");
            Check.is("resend(0, 0)", x.resend(0, 0), -1);
            alike("a FILE over RESENDS", x, Check.with("chunk 1;delay 1;wait 60;", 4));
        }
    }

    /** ACTS that could not be, in another ORDER too: the JOURNAL begins again. */
    private static void fileOverActs() {
        String fails = "delay 1;wait 60;act make a;act make a;act drop a;act make b;";
        for (int n = 1; n < 12; n++) {
            SpanCopier x = Check.with(fails, 1);
            x.ticks(n);
            Check.file(x, 1);
            alike("a FILE over ACTS", x, Check.with(fails, 1));
            SpanCopier y = Check.with(fails, 1);
            y.ticks(n);
            Check.order(y, "delay 1;wait 60;act make a;act drop a;act make c;act make c;");
            Check.file(y, 1);
            alike("an ORDER over ACTS", y,
                    Check.with("delay 1;wait 60;act make a;act drop a;act make c;act make c;", 1));
        }
    }

    private static void newOrder() {
        Check.says("A new ORDER: both ends IDLE, no FILE, TICK 0, the STORE as told, nothing in the JOURNAL, no"
                + " SENTENCE.");
        for (int seed = 0; seed < 30; seed++) {
            SpanCopier x = Check.with(STORMY, 40);
            Check.sentence(x, "out");
            for (int i = 0; i <= seed % 8; i++) {
                x.drawn(1 + seed * 2, seed);
            }
            Check.order(x, STORMY);
            SpanCopier y = new SpanCopier();
            Check.order(y, STORMY);
            Check.same("a new ORDER", Check.world(x), Check.world(y));
            Check.now(x, "0=0 1=0 2=0 3=0 4=0 5=0 6=0 7=0 8=-1 9=0 10=0 11=0");
            Check.is("store()", x.store(), 1);
            Check.is("said(-1)", x.said(-1), -1);
            alike("a new ORDER", x, y);
        }
    }

    private static void ticks() {
        Check.says("n (1 to 60) TICKS go by: how many did; NONE: not as told.");
        SpanCopier x = busy();
        for (int n : new int[] {0, -1, 61, MIN, MAX}) {
            Check.refused(x, "ticks(" + n + ")", () -> x.ticks(n), -1);
        }
        Check.is("ticks(1)", x.ticks(1), 1);
        Check.is("ticks(60)", x.ticks(60), 60);
        Check.now(x, "0=65");
    }

    private static final int[] NO_SUCH = {-1, 3, 4, 39, 40, MIN, MAX};

    private static void lose() {
        Check.says("UNIT k is LOST: 0; NONE: no such one.");
        SpanCopier x = busy();
        for (int k : NO_SUCH) {
            Check.refused(x, "lose(" + k + ")", () -> x.lose(k), -1);
        }
        Check.says("To LOSE UNIT k (from 0, as they were SENT): it is not under way any more.");
        Check.is("the last", x.lose(2), 0);
        Check.is("the last again", x.lose(2), -1);
        Check.unit(x, 1, 0, 0, 1, 12, 4, 0);
        Check.is("the first", x.lose(0), 0);
        Check.unit(x, 0, 0, 0, 1, 12, 4, 0);
        Check.is("the only one", x.lose(0), 0);
        Check.refused(x, "lose(0) of none", () -> x.lose(0), -1);
        Check.now(x, "3=0 10=5");
    }

    private static void twice() {
        Check.says("To have it TWICE: 1 there are 40: one like it is behind all others, and comes in the same TICK.");
        SpanCopier x = busy();
        for (int k : NO_SUCH) {
            Check.refused(x, "twice(" + k + ")", () -> x.twice(k), -1);
        }
        Check.is("the last", x.twice(2), 0);
        Check.unit(x, 3, 6, 0, 2, 0, 0, 0);
        x.late(1, 7);
        x.spoil(1);
        Check.is("one LATE and SPOILT", x.twice(1), 0);
        Check.unit(x, 4, 0, 0, 8, 12, 4, 1);
        Check.says("It is there TWICE: 0, or why not; NONE: no such one.");
        for (int i = x.now(3); i < 40; i++) {
            Check.is("twice(0) at " + i, x.twice(0), 0);
        }
        Check.now(x, "3=40 10=5");
        for (int k : new int[] {0, 1, 39}) {
            Check.refused(x, "twice(" + k + ") at 40", () -> x.twice(k), 1);
        }
        for (int k : new int[] {-1, 40, 41, MIN, MAX}) {
            Check.refused(x, "twice(" + k + ") at 40", () -> x.twice(k), -1);
        }
        x.lose(39);
        Check.is("twice(38) at 39", x.twice(38), 0);
        SpanCopier y = Check.with("chunk 1;delay 1;", 19);
        for (int i = 0; i < 19; i++) {
            y.ticks(1);
            if (i % 2 == 0 && i < 18) {
                y.lose(0);
            }
        }
        y.ticks(2);
        Check.unit(y, 0, 2, 1, 0, 8);
        Check.is("a NAK", y.twice(0), 0);
        Check.unit(y, 2, 2, 1, 0, 8, 0, 0);
        for (int i = 0; i < 8; i++) {
            Check.is("span of the copy", y.span(2, i, 0), 2 * i);
            Check.is("span of the copy", y.span(2, i, 1), 2 * i + 1);
        }
    }

    private static void late() {
        Check.says("It is LATE by n (1 to 60): 0; NONE: no such ones.");
        SpanCopier x = busy();
        for (int k : NO_SUCH) {
            Check.refused(x, "late(" + k + ", 1)", () -> x.late(k, 1), -1);
            Check.refused(x, "late(" + k + ", 61)", () -> x.late(k, 61), -1);
        }
        for (int n : new int[] {0, -1, 61, MIN, MAX}) {
            Check.refused(x, "late(0, " + n + ")", () -> x.late(0, n), -1);
        }
        Check.says("To make it LATE by n: it comes n TICKS later.");
        Check.is("late(2, 1)", x.late(2, 1), 0);
        Check.unit(x, 2, 6, 0, 3);
        Check.is("late(0, 60)", x.late(0, 60), 0);
        Check.unit(x, 0, 0, 0, 60);
        for (int i = 0; i < 100; i++) {
            Check.is("late(0, 60)", x.late(0, 60), 0);
        }
        Check.unit(x, 0, 0, 0, 6060, 8, 4, 0);
        Check.unit(x, 1, 0, 0, 1, 12, 4, 0);
    }

    private static void spoil() {
        Check.says("To SPOIL it: 1 it is not DATA; 2 it is spoilt");
        SpanCopier x = busy();
        for (int k : NO_SUCH) {
            Check.refused(x, "spoil(" + k + ")", () -> x.spoil(k), -1);
        }
        Check.refused(x, "spoil() of a PROMPT", () -> x.spoil(2), 1);
        Check.is("spoil(0)", x.spoil(0), 0);
        Check.refused(x, "spoil(0) again", () -> x.spoil(0), 2);
        x.twice(0);
        Check.refused(x, "spoil() of the copy", () -> x.spoil(3), 2);
        x.lose(0);
        Check.is("the next is not", x.spoil(0), 0);
        SpanCopier y = Check.with("delay 1;wait 60;", 2);
        y.ticks(1);
        y.lose(0);
        y.ticks(1);
        Check.refused(y, "spoil() of EOF", () -> y.spoil(0), 1);
        y.ticks(1);
        Check.refused(y, "spoil() of a NAK", () -> y.spoil(0), 1);
        Check.refused(y, "spoil() of an ACK of EOF", () -> y.spoil(1), 1);
        y.ticks(3);
        Check.unit(y, 0, 4);
        Check.refused(y, "spoil() of FIN", () -> y.spoil(0), 1);
        y.ticks(1);
        Check.unit(y, 0, 5);
        Check.refused(y, "spoil() of an ACK of FIN", () -> y.spoil(0), 1);
        // What is SENT in a place where one was spoilt is not.
        SpanCopier z = Check.with("chunk 1;delay 2;", 9);
        z.ticks(1);
        z.spoil(0);
        z.ticks(2);
        Check.now(z, "3=2");
        Check.unit(z, 0, 0, 0, 0, 1, 1, 0);
        Check.unit(z, 1, 0, 0, 1, 2, 1, 0);
        z.lose(0);
        z.spoil(0);
        z.lose(0);
        z.ticks(1);
        Check.unit(z, 0, 0, 0, 1, 3, 1, 0);
    }

    private static void prompt() {
        Check.says("To PROMPT: 1 the SENDER is not SENDING, WAITING, AWAITING: PROMPT is SENT.");
        SpanCopier x = new SpanCopier();
        Check.refused(x, "prompt() of IDLE", x::prompt, 1);
        Check.file(x, 1);
        Check.is("prompt() of SENDING", x.prompt(), 0);
        x.undo();
        x.ticks(2);
        Check.now(x, "1=2");
        Check.is("prompt() of WAITING", x.prompt(), 0);
        x.undo();
        x.ticks(4);
        Check.now(x, "1=3");
        Check.is("prompt() of AWAITING", x.prompt(), 0);
        x.undo();
        x.ticks(20);
        Check.now(x, "1=4 2=4");
        Check.refused(x, "prompt() of DONE", x::prompt, 1);
        SpanCopier y = Check.with("delay 9;wait 1;tries 1;", 1);
        y.ticks(3);
        Check.now(y, "1=5");
        Check.refused(y, "prompt() of FAILED", y::prompt, 1);
        Check.order(y, "");
        Check.refused(y, "prompt() behind a new ORDER", y::prompt, 1);
    }

    private static void crash() {
        Check.says("To CRASH: 1 the TAKER is IDLE, or DONE, or FAILED.");
        SpanCopier x = new SpanCopier();
        Check.refused(x, "crash() of IDLE", x::crash, 1);
        Check.order(x, "delay 1;wait 60;act make a;");
        Check.file(x, 1);
        Check.refused(x, "crash() of IDLE", x::crash, 1);
        int[] states = {0, 1, 2, 2, 3, 3, 4};
        for (int i = 0; i < states.length; i++) {
            x.ticks(1);
            Check.is("the TAKER", x.now(2), states[i]);
            if (i == 0 || i == 6) {
                Check.refused(x, "crash() in " + states[i], x::crash, 1);
            } else {
                Check.is("crash() in " + states[i], x.crash(), 0);
                Check.is("save 1", x.now(2), states[i]);
            }
        }
        SpanCopier y = Check.with("delay 1;wait 60;", 1);
        y.ticks(1);
        y.spoil(0);
        y.ticks(10);
        Check.now(y, "2=5");
        Check.refused(y, "crash() of FAILED", y::crash, 1);
    }

    /** What can be undone, from many states: all is as in one in which it was not done. */
    private static void undoEach() {
        Check.says("is undone, all is as it was ahead (there may be no FILE)");
        String[] names = {"lose", "twice", "late", "spoil", "prompt", "crash", "ticks", "drawn", "book", "file"};
        for (int seed = 0; seed < 12; seed++) {
            for (int act = 0; act < names.length; act++) {
                SpanCopier x = stormy(seed);
                SpanCopier y = stormy(seed);
                int had = undoable(stormy(seed));
                boolean done = act(x, act, seed);
                if (done) {
                    Check.is("undo() of " + names[act], x.undo(), had);
                }
                alike("undo() of " + names[act] + " by " + seed, x, y);
            }
        }
        SpanCopier x = new SpanCopier();
        Check.file(x, 3);
        x.undo();
        Check.same("no FILE", Check.world(x), Check.world(new SpanCopier()));
        Check.is("need()", x.need(), -1);
    }

    /** A GAP, then a RESEND, of one place alone comes and goes. */
    private static void undoOfOnePlace() {
        SpanCopier x = Check.with("chunk 1;delay 1;wait 60;policy now;", 4);
        x.ticks(1);
        x.lose(0);
        x.ticks(1);
        x.ticks(1);
        Check.now(x, "4=1");
        Check.is("gap(0, 0)", x.gap(0, 0), 0);
        x.undo();
        Check.now(x, "4=0 2=0");
        Check.is("gap(0, 0)", x.gap(0, 0), -1);
        x.ticks(1);
        x.ticks(1);
        x.ticks(1);
        Check.now(x, "4=0");
        x.undo();
        Check.now(x, "4=1");
        Check.is("gap(0, 1)", x.gap(0, 1), 1);
        // Two places lack: one is to be sent again behind the TICK in which their NAK came.
        SpanCopier y = Check.with("chunk 1;delay 1;wait 60;policy now;", 6);
        y.ticks(1);
        y.lose(0);
        y.ticks(1);
        y.lose(0);
        y.ticks(2);
        y.ticks(1);
        Check.now(y, "5=1");
        y.undo();
        Check.now(y, "5=0");
        Check.is("resend(0, 0)", y.resend(0, 0), -1);
        y.ticks(1);
        y.ticks(1);
        Check.now(y, "5=0");
        y.undo();
        Check.now(y, "5=1");
        Check.is("resend(0, 0)", y.resend(0, 0), 1);
    }

    /** ACTS that go 0, 0, 1, 2, 2 are undone, and done again, one by one. */
    private static void undoOfActs() {
        String fails = "delay 1;wait 60;to z;act make a;act drop a;act drop a;act make b;act make c;";
        int[] due = {0, 0, 1, 2, 2};
        for (int n = 3; n < 10; n++) {
            SpanCopier x = Check.with(fails, 1);
            SpanCopier y = Check.with(fails, 1);
            x.ticks(n);
            y.ticks(n);
            for (int i = 1; i < 6; i++) {
                x.ticks(i);
                x.undo();
                alike("ACTS undone", x, y);
                x.ticks(6);
                x.undo();
            }
            x.ticks(12 - n);
            for (int k = 0; k < due.length; k++) {
                Check.is("journal(" + k + ")", x.journal(k), due[k]);
            }
        }
        // What another ORDER wrote in the JOURNAL does not show behind undo() and restore().
        SpanCopier x = Check.with(fails, 1);
        x.ticks(10);
        x.image(0);
        Check.order(x, "delay 1;act drop a;act make a;act make b;act make c;act make d;act make e;");
        Check.file(x, 1);
        x.ticks(12);
        Check.is("journal(0)", x.journal(0), 1);
        x.restore(0);
        for (int k = 0; k < due.length; k++) {
            Check.is("journal(" + k + ") again", x.journal(k), due[k]);
        }
        Check.is("journal(5)", x.journal(5), -1);
    }

    private static SpanCopier stormy(int seed) {
        SpanCopier x = Check.with(STORMY, 60);
        Check.sentence(x, "data or nak");
        x.drawn(4 + seed * 3, seed);
        x.drawn(1, seed);
        return x;
    }

    private static int undoable(SpanCopier x) {
        int many = 0;
        while (x.undo() >= 0) {
            many++;
        }
        return many;
    }

    private static boolean act(SpanCopier x, int which, int seed) {
        switch (which) {
            case 0: return x.lose(seed % 3) == 0;
            case 1: return x.twice(seed % 3) == 0;
            case 2: return x.late(seed % 3, 1 + seed) == 0;
            case 3: return x.spoil(seed % 3) == 0;
            case 4: return x.prompt() == 0;
            case 5: return x.crash() == 0;
            case 6: return x.ticks(1 + seed * 5) > 0;
            case 7: return x.drawn(1 + seed * 5, seed) > 0;
            case 8:
                Check.book(x, "tick 9;crash;tick 9;lose 39;", 1);
                return true;
            default: return Check.file(x, 9) == 9;
        }
    }

    private static void undoEight() {
        Check.says("how many more can be (8 at most are kept); NONE: none is.");
        for (int many = 0; many <= 20; many++) {
            SpanCopier x = new SpanCopier();
            for (int i = 0; i < many; i++) {
                x.ticks(1);
            }
            int kept = Math.min(many, 8);
            for (int i = kept - 1; i >= 0; i--) {
                Check.is("undo() of " + many, x.undo(), i);
                Check.is("the TICK", x.now(0), many - kept + i);
            }
            Check.refused(x, "undo() of none", x::undo, -1);
            Check.refused(x, "undo() of none, again", x::undo, -1);
            // What was kept ahead does not come back.
            x.ticks(7);
            Check.is("undo()", x.undo(), 0);
            Check.is("the TICK", x.now(0), many - kept);
        }
        // Back by some, on by others, round and round.
        SpanCopier x = new SpanCopier();
        int[] ticks = new int[200];
        int top = 0;
        int floor = 0;
        for (int i = 0; i < 60; i++) {
            for (int on = 0; on < 1 + i % 7; on++) {
                ticks[top + 1] = ticks[top] + 1 + on;
                top++;
                x.ticks(1 + on);
            }
            floor = Math.max(floor, top - 8);
            for (int back = 0; back < i * 3 % 6 && top > floor; back++) {
                top--;
                Check.is("undo()", x.undo(), top - floor);
                Check.is("the TICK", x.now(0), ticks[top]);
            }
        }
    }

    private static void undoNone() {
        Check.says("NONE: none is.");
        SpanCopier x = new SpanCopier();
        Check.refused(x, "undo() of a new object", x::undo, -1);
        Check.order(x, "chunk 4;");
        Check.refused(x, "undo() of an ORDER", x::undo, -1);
        Check.sentence(x, "data");
        Check.refused(x, "undo() of a SENTENCE", x::undo, -1);
        x.image(0);
        Check.file(x, 3);
        x.ticks(1);
        x.restore(0);
        Check.refused(x, "undo() behind restore()", x::undo, -1);
        x.feed(1, 2, 3, 4, 5);
        Check.refused(x, "undo() of feed()", x::undo, -1);
    }

    private static void notUndoable(String what, ToIntFunction<SpanCopier> call, Consumer<SpanCopier> ahead) {
        SpanCopier x = busy();
        SpanCopier y = busy();
        ahead.accept(x);
        ahead.accept(y);
        call.applyAsInt(x);
        for (int left = 3; left > 0; left--) {
            Check.is("undo() behind " + what, x.undo(), y.undo());
            Check.same("undo() behind " + what, Check.world(x), Check.world(y));
        }
    }

    private static void undoIsNotForRefused() {
        Check.says("The latest of file() that was not NONE, lose(), twice(), late(), spoil(), prompt(), crash() that was"
                + " done, ticks() above 0, drawn() above 0, a BOOK of which some LINE was lived");
        Consumer<SpanCopier> nothing = x -> { };
        notUndoable("file() of NONE", SpanCopier::file, nothing);
        notUndoable("lose() of none", x -> x.lose(40), nothing);
        notUndoable("twice() of none", x -> x.twice(-1), nothing);
        notUndoable("late() of none", x -> x.late(3, 1), nothing);
        notUndoable("late() by 61", x -> x.late(0, 61), nothing);
        notUndoable("spoil() of none", x -> x.spoil(3), nothing);
        notUndoable("spoil() of a PROMPT", x -> x.spoil(2), nothing);
        notUndoable("spoil() of a spoilt one", x -> x.spoil(0), x -> x.spoil(0));
        notUndoable("prompt() of DONE", SpanCopier::prompt, x -> x.ticks(60));
        notUndoable("crash() of DONE", SpanCopier::crash, x -> x.ticks(60));
        notUndoable("ticks(0)", x -> x.ticks(0), nothing);
        notUndoable("ticks(61)", x -> x.ticks(61), nothing);
        notUndoable("drawn(0)", x -> x.drawn(0, 1), nothing);
        notUndoable("drawn(61)", x -> x.drawn(61, 1), nothing);
        notUndoable("a BOOK that is judged", x -> Check.book(x, "tick 5;", 0), nothing);
        notUndoable("a BOOK without LINES", x -> Check.book(x, "", 1), nothing);
        notUndoable("a BOOK that is WRONG at once", x -> Check.book(x, "lose 9;tick 5;", 1), nothing);
        notUndoable("a BOOK with a FAULT", x -> Check.book(x, "tick 5;tick 0;", 1), nothing);
        notUndoable("a BOOK of -1000", x -> x.book(2), nothing);
        notUndoable("over()", SpanCopier::over, nothing);
        notUndoable("odds()", x -> x.odds(3, 3), nothing);
        notUndoable("image()", x -> x.image(1) ? 1 : 0, nothing);
        notUndoable("a restore() of nothing", x -> x.restore(1) ? 1 : 0, nothing);
        notUndoable("an ORDER with a FAULT", x -> Check.order(x, "chunk 0;"), nothing);
        notUndoable("feed()", x -> x.feed(1, 2, 3, 4, 5), nothing);
    }

    /** 512 calls of one object: the last answers as the first would. */
    private static void manyCalls() {
        Check.says("An object is used for at most 512 calls after it has been made");
        SpanCopier x = new SpanCopier();
        for (int i = 0; i < 511; i++) {
            x.late(0, 60);
        }
        Check.is("the 512th", x.ticks(60), 60);
        SpanCopier y = new SpanCopier();
        y.feed(1, 2, 3, 4, 5);
        y.file();
        y.ticks(1);
        for (int i = 3; i < 511; i++) {
            Check.is("late(0, 60)", y.late(0, 60), 0);
        }
        Check.is("the 512th", Check.unitOrThrows(y, 0, 2), 1 + 508 * 60);
    }
}
