/** Promises 1 to 6, 29 and 31 (their texts and FAULTS) and 35. */
public final class TextPromisesTest {
    public static void main(String[] args) {
        newObject();
        feed();
        end();
        orders();
        orderFaults();
        orderLength();
        fault();
        file();
        bookTexts();
        sentenceTexts();
        count();
        Check.end();
    }

    private static void newObject() {
        Check.promise(1);
        SpanCopier x = new SpanCopier();
        int[] due = {8, 1, 2, 12, 3, 1, 0, 0, 0};
        for (int what = 0; what < due.length; what++) {
            Check.is("count(" + what + ")", x.count(what), due[what]);
        }
        Check.now(x, "0=0 1=0 2=0 3=0 4=0 5=0 6=0 7=0 8=-1 9=0 10=0 11=0");
        Check.is("store()", x.store(), 0);
        Check.is("fault()", x.fault(), 0);
        Check.is("file() of an empty tape", x.file(), -1);
        Check.is("order() of an empty tape", x.order(), 0);
    }

    private static void feed() {
        Check.promise(2);
        SpanCopier x = new SpanCopier();
        Check.is("feed", x.feed(0x01020304, 0x05060708, 0x090a0b0c, 0x0d0e0f10, 0xf1f2f3ff), 20);
        Check.is("file()", x.file(), 20);
        x.ticks(6);
        for (int i = 0; i < 16; i++) {
            Check.is("taken(" + i + ")", x.taken(i), i + 1);
        }
        Check.is("taken(16)", x.taken(16), 0xf1);
        Check.is("taken(19)", x.taken(19), 255);
        for (int i = 1; i <= 47; i++) {
            Check.is("feed " + i, x.feed(i, 0, 0, 0, 0), 20 * i);
        }
        Check.is("feed beyond 940", x.feed(1, 1, 1, 1, 1), -1);
        Check.is("count(8)", x.count(8), 940);
        x.end(921);
        Check.is("feed to 941", x.feed(1, 1, 1, 1, 1), -1);
        Check.is("count(8)", x.count(8), 921);
        x.end(920);
        Check.is("feed to 940", x.feed(1, 1, 1, 1, 1), 940);
    }

    private static void end() {
        Check.promise(3);
        SpanCopier x = new SpanCopier();
        Check.is("end(0)", x.end(0), true);
        Check.is("end(1)", x.end(1), false);
        x.feed(0x61626364, 0, 0, 0, 0);
        Check.is("end(21)", x.end(21), false);
        Check.is("end(-1)", x.end(-1), false);
        Check.is("end(MIN)", x.end(Integer.MIN_VALUE), false);
        Check.is("end(MAX)", x.end(Integer.MAX_VALUE), false);
        Check.is("end(20)", x.end(20), true);
        Check.is("end(3)", x.end(3), true);
        Check.is("count(8)", x.count(8), 3);
        Check.is("end(4)", x.end(4), false);
        Check.is("feed", x.feed(0, 0, 0, 0, 0), 23);
    }

    private static void orders() {
        Check.promise(4);
        SpanCopier x = new SpanCopier();
        Check.is("lines", Check.order(x, "chunk 32;policy asked;delay 9;wait 60;tries 9;save 60;to mars;"
                + "has io;has mars;act make a;act drop io;act move a b;act copy b a;"), 13);
        int[] due = {32, 2, 9, 60, 9, 60, 4, 4, 0};
        for (int what = 0; what < due.length; what++) {
            Check.is("count(" + what + ")", x.count(what), due[what]);
        }
        Check.is("store()", x.store(), 0b11);
        Check.is("blanks between", Check.order(x, "  has\nio ;\n\n has  a\n;  "), 2);
        Check.is("no blanks", Check.order(x, "has io;policy now;save 007;"), 3);
        Check.is("count(5)", x.count(5), 7);
        Check.is("count(0) is as without", x.count(0), 8);
        Check.is("count(8)", x.count(8), 0);

        Check.file(x, 9);
        Check.sentence(x, "data");
        x.ticks(3);
        Check.is("a fault", Check.order(x, "has b;has b;"), -11);
        Check.now(x, "0=3 1=2 11=9 3=2");
        Check.is("the SENTENCE stays", x.said(-1), 1);
        Check.is("the ORDER stays", x.count(5), 7);
        Check.is("the tape is empty behind a fault", x.count(8), 0);
        Check.is("a new one", Check.order(x, "has b;"), 1);
        Check.now(x, "0=0 1=0 2=0 3=0 4=0 5=0 6=0 7=0 8=-1 9=0 10=0 11=0");
        Check.is("no SENTENCE", x.said(-1), -1);
    }

    private static void orderFault(String text, int kind, int place) {
        SpanCopier x = new SpanCopier();
        Check.is("order() of " + text, Check.order(x, text), -1 - place);
        Check.is("fault() of " + text, x.fault(), kind);
    }

    private static void orderFaults() {
        Check.promise(4);
        orderFault("chunk", 1, 5);
        orderFault("chunk 8", 1, 7);
        orderFault("chunk 8  ", 1, 9);
        orderFault("chunk;", 1, 5);
        orderFault("chunk 0;", 2, 6);
        orderFault("chunk 33;", 2, 6);
        orderFault("chunk 1234;", 1, 6);
        orderFault("chunk 8a;", 1, 6);
        orderFault("chunk8;", 1, 0);
        orderFault("Chunk 8;", 1, 0);
        orderFault("has aB;", 1, 5);
        orderFault("has abcdefg;has abcdefgh;", 1, 16);
        orderFault("chunk 8;;", 1, 8);
        orderFault("chunk 8;chunk 0;", 3, 8);
        orderFault("policy later;", 1, 7);
        orderFault("policy now;policy now;", 3, 11);
        orderFault("delay 10;", 2, 6);
        orderFault("wait 61;", 2, 5);
        orderFault("tries 10;", 2, 6);
        orderFault("save 61;", 2, 5);
        orderFault("save 0;", 2, 5);
        orderFault("to a;to b;", 3, 5);
        orderFault("to chunk;", 1, 3);
        orderFault("has number;", 1, 4);
        orderFault("has tick;", 1, 4);
        orderFault("has 7;", 1, 4);
        orderFault("has a;has b;has a;", 3, 16);
        orderFault("act a;", 1, 4);
        orderFault("act make a b;", 1, 11);
        orderFault("act move a;", 1, 10);
        orderFault("act copy a a;", 3, 11);
        orderFault("has a.", 1, 5);
        orderFault("has\ta;", 1, 3);
        orderFault("has a\r;", 1, 5);
        orderFault("= a;", 1, 0);
        orderFault(Check.times("act make a;", 6) + "act move b b;", 4, 66);
        orderFault("has a;has b;has c;has d;has e;has f;has g;has h;has i;has j;to k;", 4, 63);
        SpanCopier x = new SpanCopier();
        Check.is("ten NAMES, six ACTS", Check.order(x, "has a;has b;has c;has d;has e;has f;has g;has h;"
                + "act make i;to j;act drop a;act move a b;act move b a;act copy i j;act make a;"), 15);
        Check.is("count(6)", x.count(6), 10);
        Check.is("count(7)", x.count(7), 6);
        Check.is("'to' may be told of 'has' too", Check.order(x, "has a;to a;"), 2);
    }

    private static void orderLength() {
        Check.promise(4);
        SpanCopier x = new SpanCopier();
        Check.is("900 bytes", Check.order(x, "has a;" + Check.blanks(894)), 1);
        orderFault("has a;" + Check.blanks(895), 1, 900);
        orderFault("has a;" + Check.blanks(890) + "has b;", 1, 900);
        orderFault("has a;" + Check.blanks(889) + "has a;", 3, 899);
        orderFault("has a;" + Check.blanks(888) + "chunk 99 ;", 1, 900);
        orderFault(Check.blanks(895) + "has abcdefgh;", 1, 899);
        orderFault(Check.blanks(899) + "chunk", 1, 900);
        orderFault(Check.blanks(899) + "chunks", 1, 899);
        orderFault(Check.blanks(892) + "chunk 999;", 2, 898);
        orderFault(Check.blanks(900) + "?", 1, 900);
    }

    private static void fault() {
        Check.promise(5);
        SpanCopier x = new SpanCopier();
        Check.is("ahead of any", x.fault(), 0);
        Check.order(x, "chunk 0;");
        Check.is("order", x.fault(), 2);
        x.book(2);
        x.book(-1);
        Check.is("book of -1000", x.fault(), 2);
        Check.file(x, 3);
        Check.is("file leaves it", x.fault(), 2);
        Check.sentence(x, "data or");
        Check.is("sentence", x.fault(), 1);
        Check.book(x, Check.times("crash;", 41), 0);
        Check.is("book", x.fault(), 4);
        Check.book(x, "crash;", 0);
        Check.is("a WRONG LINE is no FAULT", x.fault(), 0);
        Check.order(x, "has a;has a;");
        Check.is("order", x.fault(), 3);
        Check.sentence(x, "data");
        Check.is("a good one", x.fault(), 0);
    }

    private static void file() {
        Check.promise(6);
        SpanCopier x = new SpanCopier();
        Check.order(x, "has a;act make b;chunk 4;delay 1;");
        Check.is("file() of nothing", x.file(), -1);
        Check.is("240", Check.file(x, 240), 240);
        Check.now(x, "0=0 1=1 2=0 11=240");
        Check.is("count(8)", x.count(8), 0);
        x.ticks(5);
        Check.sentence(x, "out");
        for (int i = 0; i < 13; i++) {
            x.feed(i, i, i, i, i);
        }
        x.end(241);
        Check.is("241", x.file(), -1);
        Check.is("the tape stays", x.count(8), 241);
        Check.now(x, "0=5 11=240 3=1 7=20");
        Check.is("1", Check.file(x, 1), 1);
        Check.now(x, "0=0 1=1 2=0 3=0 4=0 5=0 6=0 7=0 8=-1 9=0 10=0 11=1");
        Check.is("the SENTENCE stays", x.said(-1), 0);
        x.ticks(60);
        Check.is("store()", x.store(), 3);
        Check.is("journal(0)", x.journal(0), 0);
        Check.file(x, 2);
        Check.is("the STORE is as told", x.store(), 1);
        Check.is("nothing is in the JOURNAL", x.journal(0), -1);
        Check.is("CODE", x.now(8), -1);
    }

    private static void bookFault(String text, int kind, int place) {
        SpanCopier x = Check.with("chunk 4;", 9);
        Check.is("book() of " + text, Check.book(x, text, 1), -2 - place);
        Check.is("fault() of " + text, x.fault(), kind);
        Check.is("told(0) behind " + text, x.told(0), -1);
        Check.is("now(0) behind " + text, x.now(0), 0);
        Check.is("the tape is empty", x.count(8), 0);
    }

    private static void bookTexts() {
        Check.promise(29);
        SpanCopier x = Check.with("chunk 4;", 9);
        Check.is("no LINES", Check.book(x, "", 0), -1);
        Check.is("forty", Check.book(x, Check.times("tick 1;", 40), 0), -1);
        Check.is("told(1)", x.told(1), 40);
        Check.is("highest", Check.book(x, "tick 1;lose 39;", 0), 1);
        Check.is("all kinds", Check.book(x, "tick 4;late 0 60;twice 0;spoil 2;lose 1;prompt;crash;tick 60;", 0), -1);
        bookFault("lose;", 1, 4);
        bookFault("lose 40;", 2, 5);
        bookFault("late 1;", 1, 6);
        bookFault("late 1 0;", 2, 7);
        bookFault("late 1 61;", 2, 7);
        bookFault("tick 0;", 2, 5);
        bookFault("tick 61;", 2, 5);
        bookFault("tick 1", 1, 6);
        bookFault("prompt 1;", 1, 7);
        bookFault("has a;", 1, 0);
        bookFault("crash;a;", 1, 6);
        bookFault(Check.times("crash;", 40) + "crash;", 4, 240);
        bookFault(Check.times("crash;", 40) + "act;", 1, 240);
        bookFault("tick 1;" + Check.blanks(394), 1, 400);
        bookFault(Check.blanks(399) + "ticks 1;", 1, 399);
        bookFault(Check.blanks(399) + "tick 1;", 1, 400);
        Check.is("400 bytes", Check.book(x, "tick 1;" + Check.blanks(393), 0), -1);
    }

    private static void sentenceFault(String text, int kind, int place) {
        SpanCopier x = Check.with("delay 1;", 9);
        x.ticks(1);
        Check.sentence(x, "data");
        Check.is("sentence() of " + text, Check.sentence(x, text), -1 - place);
        Check.is("fault() of " + text, x.fault(), kind);
        Check.is("it stays behind " + text, x.said(-1), 1);
        Check.is("the tape is empty", x.count(8), 0);
    }

    private static void sentenceTexts() {
        Check.promise(31);
        SpanCopier x = new SpanCopier();
        Check.is("one", Check.sentence(x, "data"), 1);
        Check.is("each kind", Check.sentence(x,
                "data or eof and nak or ack or fin or out and spoilt or from<1 or many = 2 or ticks>3 or number=999"),
                11);
        Check.is("not and brackets count", Check.sentence(x, "not(data or not eof)"), 5);
        Check.is("twenty", Check.sentence(x, "out" + Check.times(" or fin", 19)), 20);
        Check.is("eight within", Check.sentence(x, Check.times("not ", 7) + "data"), 8);
        Check.is("eight within", Check.sentence(x, Check.times("(", 7) + "data" + Check.times(")", 7)), 8);
        Check.is("200 bytes", Check.sentence(x, "data" + Check.blanks(196)), 1);
        sentenceFault("", 1, 0);
        sentenceFault("  ", 1, 2);
        sentenceFault("data eof", 1, 5);
        sentenceFault("data or", 1, 7);
        sentenceFault("or data", 1, 0);
        sentenceFault("(data", 1, 5);
        sentenceFault("data)", 1, 4);
        sentenceFault("()", 1, 1);
        sentenceFault("not", 1, 3);
        sentenceFault("from 3", 1, 5);
        sentenceFault("from<data", 1, 5);
        sentenceFault("from<=3", 1, 5);
        sentenceFault("from<1000", 1, 5);
        sentenceFault("mars", 1, 0);
        sentenceFault("data;", 1, 4);
        sentenceFault("prompt", 1, 0);
        sentenceFault("out" + Check.times(" or fin", 20), 4, 3 + 19 * 7 + 4);
        sentenceFault("out" + Check.times(" or fin", 19) + " or mars", 1, 3 + 19 * 7 + 4);
        sentenceFault(Check.times("not ", 8) + "data", 4, 32);
        sentenceFault(Check.times("(", 8) + "data" + Check.times(")", 8), 4, 8);
        sentenceFault(Check.times("(", 8) + ")", 1, 8);
        sentenceFault("data" + Check.blanks(197), 1, 200);
        sentenceFault(Check.blanks(199) + "spoilt", 1, 200);
        sentenceFault(Check.blanks(199) + "spoiled", 1, 199);
    }

    private static void count() {
        Check.promise(35);
        SpanCopier x = new SpanCopier();
        for (int what : new int[] {-1, 9, Integer.MIN_VALUE, Integer.MAX_VALUE}) {
            Check.is("count(" + what + ")", x.count(what), -1);
        }
        x.feed(1, 2, 3, 4, 5);
        Check.is("count(8)", x.count(8), 20);
        Check.order(x, "policy now;");
        Check.is("count(1) now", x.count(1), 0);
        Check.order(x, "policy asked;");
        Check.is("count(1) asked", x.count(1), 2);
        Check.order(x, "policy end;");
        Check.is("count(1) end", x.count(1), 1);
    }
}
