/** Promises 8 to 14: what is done to UNITS and to the TAKER, and undone. */
public final class HandsTest {
    private static final int[] NO_UNITS = {-1, 2, 40, Integer.MIN_VALUE, Integer.MAX_VALUE};

    public static void main(String[] args) {
        lose();
        twice();
        late();
        spoil();
        prompt();
        crash();
        undoOne();
        undoMany();
        undoKeepsWhatIsNotDone();
        undoOfFile();
        undoBeyondOrder();
        Check.end();
    }

    /** Two DATA under way: places 0 to 4 and 4 to 8. */
    private static SpanCopier two() {
        SpanCopier x = Check.with("chunk 4;delay 3;", 12);
        x.ticks(2);
        Check.now(x, "3=2");
        return x;
    }

    private static void lose() {
        Check.promise(8);
        SpanCopier x = two();
        for (int k : NO_UNITS) {
            Check.is("lose(" + k + ")", x.lose(k), -1);
        }
        Check.now(x, "3=2");
        Check.is("lose(0)", x.lose(0), 0);
        Check.now(x, "3=1 10=2");
        Check.unit(x, 0, 0, 0, 2, 4, 4, 0);
        Check.is("lose(1)", x.lose(1), -1);
        x.ticks(2);
        Check.now(x, "6=0");
        x.ticks(1);
        Check.now(x, "6=8 4=1");
    }

    private static void twice() {
        Check.promise(9);
        SpanCopier x = two();
        for (int k : NO_UNITS) {
            Check.is("twice(" + k + ")", x.twice(k), -1);
        }
        x.spoil(0);
        Check.is("twice(0)", x.twice(0), 0);
        Check.now(x, "3=3 10=2");
        Check.unit(x, 0, 0, 0, 1, 0, 4, 1);
        Check.unit(x, 1, 0, 0, 2, 4, 4, 0);
        Check.unit(x, 2, 0, 0, 1, 0, 4, 1);
        x.ticks(2);
        Check.now(x, "3=3 6=4");
        x = Check.with("chunk 4;delay 3;", 12);
        x.ticks(1);
        for (int i = 1; i < 40; i++) {
            Check.is("twice(0)", x.twice(0), 0);
        }
        Check.now(x, "3=40");
        Check.is("twice(0) of 40", x.twice(0), 1);
        Check.is("twice(40)", x.twice(40), -1);
        Check.now(x, "3=40");
    }

    private static void late() {
        Check.promise(10);
        SpanCopier x = Check.with("chunk 4;delay 3;policy asked;", 12);
        x.ticks(2);
        for (int k : NO_UNITS) {
            Check.is("late(" + k + ", 1)", x.late(k, 1), -1);
        }
        for (int n : new int[] {0, -1, 61, Integer.MAX_VALUE, Integer.MIN_VALUE}) {
            Check.is("late(0, " + n + ")", x.late(0, n), -1);
        }
        Check.unit(x, 0, 0, 0, 1);
        Check.is("late(0, 60)", x.late(0, 60), 0);
        Check.is("late(0, 1)", x.late(0, 1), 0);
        Check.unit(x, 0, 0, 0, 62, 0, 4, 0);
        x.ticks(3);
        Check.now(x, "6=8 4=1");
        x.ticks(59);
        Check.now(x, "0=64 4=1 3=1");
        x.ticks(1);
        Check.now(x, "4=0 3=0");
        SpanCopier y = two();
        y.late(0, 1);
        y.ticks(3);
        Check.now(y, "4=0 6=8");
    }

    private static void spoil() {
        Check.promise(11);
        SpanCopier x = two();
        for (int k : NO_UNITS) {
            Check.is("spoil(" + k + ")", x.spoil(k), -1);
        }
        Check.is("spoil(1)", x.spoil(1), 0);
        Check.unit(x, 1, 0, 0, 2, 4, 4, 1);
        Check.unit(x, 0, 0, 0, 1, 0, 4, 0);
        Check.is("spoil(1) again", x.spoil(1), 2);
        x.prompt();
        Check.is("spoil of a PROMPT", x.spoil(2), 1);
        x.ticks(3);
        Check.is("taken(4)", x.taken(4), 250);
        Check.is("taken(5)", x.taken(5), 6);
        Check.is("taken(0)", x.taken(0), 1);
    }

    private static void prompt() {
        Check.promise(12);
        SpanCopier x = new SpanCopier();
        Check.is("prompt() of IDLE", x.prompt(), 1);
        Check.now(x, "3=0 10=0");
        x = two();
        Check.is("prompt() of SENDING", x.prompt(), 0);
        Check.now(x, "3=3 10=3");
        Check.unit(x, 2, 6, 0, 3, 0, 0, 0);
        x.ticks(2);
        Check.is("prompt() of WAITING", x.prompt(), 0);
        Check.unit(x, x.now(3) - 1, 6, 0, 3, 0, 0, 0);
        x.ticks(6);
        Check.now(x, "1=3");
        Check.is("prompt() of AWAITING", x.prompt(), 0);
        x.ticks(60);
        Check.now(x, "1=4");
        Check.is("prompt() of DONE", x.prompt(), 1);
        x = Check.with("delay 9;wait 1;tries 1;", 1);
        x.ticks(3);
        Check.now(x, "1=5");
        Check.is("prompt() of FAILED", x.prompt(), 1);
    }

    private static void crash() {
        Check.promise(13);
        SpanCopier x = new SpanCopier();
        Check.is("crash() of IDLE", x.crash(), 1);
        x = Check.with("chunk 2;delay 1;save 60;act make a;", 4);
        x.ticks(3);
        Check.now(x, "2=1 6=4 3=1");
        Check.is("crash() of TAKING", x.crash(), 0);
        Check.now(x, "2=0 6=0 3=1 0=3 1=2 10=3");
        Check.is("taken(0)", x.taken(0), -1);
        Check.is("crash() again", x.crash(), 1);
        x = Check.with("chunk 2;delay 1;save 5;act make a;", 4);
        x.ticks(5);
        Check.now(x, "2=2 9=1");
        Check.is("store()", x.store(), 1);
        Check.is("crash() of ACTING", x.crash(), 0);
        Check.now(x, "2=2 9=1");
        Check.is("store() stays", x.store(), 1);
        Check.is("journal(0) stays", x.journal(0), 0);
        x.ticks(1);
        Check.now(x, "2=3 8=0");
        Check.is("crash() of FINISHING", x.crash(), 0);
        Check.now(x, "2=2 8=-1 3=1");
        Check.is("journal(0) stays", x.journal(0), 0);
        x.ticks(10);
        Check.now(x, "1=4 2=4");
        Check.is("journal(0)", x.journal(0), 0);
        Check.is("crash() of DONE", x.crash(), 1);
        x = Check.with("delay 1;wait 1;tries 1;", 1);
        x.ticks(1);
        x.lose(0);
        x.ticks(10);
        Check.now(x, "2=5");
        Check.is("crash() of FAILED", x.crash(), 1);
    }

    private static void undoOne() {
        Check.promise(14);
        SpanCopier x = new SpanCopier();
        Check.is("undo() of nothing", x.undo(), -1);
        x = two();
        x.lose(0);
        Check.is("undo() of lose", x.undo(), 2);
        Check.unit(x, 0, 0, 0, 1, 0, 4, 0);
        x.twice(0);
        x.undo();
        Check.now(x, "3=2");
        x.late(1, 5);
        x.undo();
        Check.unit(x, 1, 0, 0, 2, 4, 4, 0);
        x.spoil(1);
        x.undo();
        Check.unit(x, 1, 0, 0, 2, 4, 4, 0);
        x.prompt();
        Check.is("undo() of prompt", x.undo(), 2);
        Check.now(x, "3=2 10=2");
        x.drawn(30, 5);
        Check.is("undo() of drawn", x.undo(), 2);
        Check.now(x, "0=2 3=2 10=2 2=0 6=0");
        x.ticks(5);
        Check.is("taken(0)", x.taken(0), 1);
        x.crash();
        x.undo();
        Check.now(x, "0=7 6=12 2=2");
        Check.is("undo() of ticks", x.undo(), 2);
        Check.is("taken(0)", x.taken(0), -1);
        Check.now(x, "0=2 6=0 2=0 7=8");
        Check.book(x, "lose 0;tick 3;lose 39;", 1);
        Check.now(x, "0=5");
        Check.is("undo() of a BOOK", x.undo(), 2);
        Check.now(x, "0=2 3=2");
    }

    private static void undoMany() {
        Check.promise(14);
        SpanCopier x = Check.with("chunk 1;", 200);
        for (int i = 0; i < 20; i++) {
            x.ticks(1);
        }
        for (int i = 7; i >= 0; i--) {
            Check.is("undo()", x.undo(), i);
            Check.is("now(0)", x.now(0), 12 + i);
        }
        Check.is("undo()", x.undo(), -1);
        Check.now(x, "0=12");
        x.ticks(1);
        x.ticks(1);
        Check.is("undo()", x.undo(), 1);
        x.ticks(7);
        Check.is("undo()", x.undo(), 1);
        Check.is("undo()", x.undo(), 0);
        Check.now(x, "0=12 7=12");
    }

    private static void undoKeepsWhatIsNotDone() {
        Check.promise(14);
        SpanCopier x = new SpanCopier();
        x.file();
        x.ticks(0);
        x.lose(0);
        x.twice(0);
        x.late(0, 1);
        x.spoil(0);
        x.prompt();
        x.crash();
        x.drawn(0, 0);
        Check.book(x, "crash;tick 5;", 1);
        Check.book(x, "tick 5;", 0);
        Check.book(x, "", 1);
        Check.sentence(x, "data");
        x.image(0);
        Check.is("undo() of what was not done", x.undo(), -1);
        for (int i = 0; i < 34; i++) {
            x.ticks(60);
        }
        Check.now(x, "0=2000");
        x.ticks(60);
        x.drawn(60, 1);
        Check.is("undo()", x.undo(), 7);
        Check.now(x, "0=1980");
    }

    private static void undoOfFile() {
        Check.promise(14);
        SpanCopier x = new SpanCopier();
        Check.file(x, 5);
        Check.file(x, 7);
        x.ticks(2);
        Check.is("undo()", x.undo(), 2);
        Check.now(x, "0=0 11=7 1=1");
        Check.is("undo()", x.undo(), 1);
        Check.now(x, "11=5");
        Check.is("sum(0)", x.sum(0), 0x06020304);
        Check.is("undo()", x.undo(), 0);
        Check.now(x, "11=0 1=0");
        Check.is("no FILE", x.need(), -1);
        Check.is("undo()", x.undo(), -1);
    }

    /** All is as it was ahead of the latest that can be undone, the ORDER and SENTENCE too. */
    private static void undoBeyondOrder() {
        Check.promise(14);
        SpanCopier x = Check.with("chunk 3;has a;", 9);
        Check.sentence(x, "data");
        x.ticks(1);
        Check.order(x, "chunk 5;");
        Check.is("undo()", x.undo(), 1);
        Check.now(x, "0=0 11=9");
        Check.is("count(0)", x.count(0), 3);
        Check.is("store()", x.store(), 1);
        Check.is("said(-1)", x.said(-1), 0);
    }
}
