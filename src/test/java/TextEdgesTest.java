import java.util.Arrays;
import java.util.Random;
import java.util.Set;
import java.util.TreeSet;

/** The edges that the Terms name for TOKENS, ORDER, BOOK, SENTENCE and FAULTS, sentence by sentence. */
public final class TextEdgesTest {
    private static final String[] TOLD = {"chunk", "policy", "now", "end", "asked", "delay", "wait", "tries", "save",
        "to", "has", "act", "make", "drop", "move", "copy", "lose", "twice", "late", "spoil", "prompt", "crash",
        "tick", "or", "and", "not", "data", "eof", "nak", "ack", "fin", "out", "spoilt", "from", "many", "ticks",
        "number"};
    private static final String TEN = "has a;has b;has c;has d;has e;has f;has g;has h;has i;has j;";

    public static void main(String[] args) {
        blanks();
        words();
        unlikeNames();
        numbers();
        tokensGoOn();
        signs();
        orderLength();
        settings();
        eachOnce();
        policies();
        hasOnce();
        acts();
        toOnceOrNot();
        names();
        tenNames();
        sixActs();
        linesEnd();
        bookLength();
        fortyLines();
        bookNumbers();
        sentenceLength();
        measures();
        twentyOnes();
        eightWithin();
        grammarOfSentences();
        faultKinds();
        firstAlongTheText();
        ofOneTokenTheLeast();
        theEnd();
        readWhole();
        fullTape();
        Check.end();
    }

    // A world in which something goes on, so that it can be seen that a FAULT leaves it.
    private static SpanCopier busy() {
        SpanCopier x = Check.with("chunk 3;delay 2;has a;", 20);
        x.ticks(4);
        Check.sentence(x, "data");
        return x;
    }

    private static void order(String text, int lines) {
        SpanCopier x = busy();
        Check.is("order() of [" + text + "]", Check.order(x, text), lines);
        Check.is("fault() of [" + text + "]", x.fault(), 0);
        Check.is("the tape behind [" + text + "]", x.count(8), 0);
    }

    private static void orderFault(String text, int kind, int place) {
        SpanCopier x = busy();
        String before = Check.world(x);
        Check.is("order() of [" + text + "]", Check.order(x, text), -1 - place);
        Check.is("fault() of [" + text + "]", x.fault(), kind);
        Check.is("the tape behind [" + text + "]", x.count(8), 0);
        Check.same("behind [" + text + "]", Check.world(x), before);
    }

    private static void book(String text, int answer) {
        SpanCopier x = busy();
        Check.is("book() of [" + text + "]", Check.book(x, text, 0), answer);
        Check.is("fault() of [" + text + "]", x.fault(), 0);
        Check.is("the tape behind [" + text + "]", x.count(8), 0);
    }

    private static void bookFault(String text, int kind, int place) {
        for (int lives = 0; lives < 2; lives++) {
            SpanCopier x = busy();
            String before = Check.world(x);
            Check.is("book() of [" + text + "]", Check.book(x, text, lives), -2 - place);
            Check.is("fault() of [" + text + "]", x.fault(), kind);
            Check.is("told(0) behind [" + text + "]", x.told(0), -1);
            Check.is("the tape behind [" + text + "]", x.count(8), 0);
            Check.same("behind [" + text + "]", Check.world(x), before);
        }
    }

    private static void sentence(String text, int ones) {
        SpanCopier x = busy();
        Check.is("sentence() of [" + text + "]", Check.sentence(x, text), ones);
        Check.is("fault() of [" + text + "]", x.fault(), 0);
        Check.is("the tape behind [" + text + "]", x.count(8), 0);
    }

    private static void sentenceFault(String text, int kind, int place) {
        SpanCopier x = busy();
        String before = Check.world(x);
        Check.is("sentence() of [" + text + "]", Check.sentence(x, text), -1 - place);
        Check.is("fault() of [" + text + "]", x.fault(), kind);
        Check.is("the tape behind [" + text + "]", x.count(8), 0);
        Check.same("behind [" + text + "]", Check.world(x), before);
    }

    private static boolean isLetter(int sign) {
        return sign >= 'a' && sign <= 'z';
    }

    private static boolean isDigit(int sign) {
        return sign >= '0' && sign <= '9';
    }

    /** Every byte, as what stands between two TOKENS. */
    private static void blanks() {
        Check.says("with blanks (32, 10) between them or not");
        for (int sign = 0; sign < 256; sign++) {
            String text = "chunk" + (char) sign + "4;";
            if (sign == 32 || sign == 10) {
                order(text, 1);
            } else {
                orderFault(text, 1, isLetter(sign) || isDigit(sign) ? 0 : 5);
            }
        }
        order("\n \n chunk \n\n 4\n;\n \n", 1);
        book("tick\n1 ;\n  tick 1\n;", -1);
        book("tick 1;tick 1;", -1);
        sentence("(data)or(from<1)and not(eof)", 7);
        sentence(" ( data )\nor ( from < 1 )\nand\nnot ( eof )\n", 7);
        orderFault("chunk 4;\t", 1, 8);
        bookFault("tick 1;\r", 1, 7);
        sentenceFault("data\0", 1, 4);
    }

    /** Every byte as a NAME; what is not a small letter is none. */
    private static void words() {
        Check.says("WORDS: small letters, 1 to 7");
        for (int sign = 0; sign < 256; sign++) {
            String text = "has " + (char) sign + ";";
            if (isLetter(sign)) {
                order(text, 1);
            } else {
                orderFault(text, 1, sign == 32 || sign == 10 ? 5 : 4);
            }
        }
        order("has zzzzzzz;", 1);
        order("has azazaza;has zazazaz;has azazazb;", 3);
        orderFault("has zzzzzzzz;", 1, 4);
        orderFault("has abcdefghijklmnopqrstuvwxyz;", 1, 4);
        orderFault("has aaaaaaa;has aaaaaaaa;", 1, 16);
        SpanCopier x = new SpanCopier();
        Check.is("unlike at any letter", Check.order(x, "has a;has aa;has b;has ab;has ba;has aaaaaaa;has aaaaaab;"
                + "has baaaaaa;"), 8);
        Check.is("count(6)", x.count(6), 8);
    }

    /** Ten unlike NAMES, many of them short ones of few letters, are ten. */
    private static void unlikeNames() {
        Random random = new Random(1);
        for (int i = 0; i < 3000; i++) {
            Set<String> names = new TreeSet<>();
            int letters = 2 + random.nextInt(25);
            int most = 1 + random.nextInt(7);
            while (names.size() < 10) {
                StringBuilder b = new StringBuilder();
                for (int n = 1 + random.nextInt(most); n > 0; n--) {
                    b.append((char) ('z' - random.nextInt(letters)));
                }
                names.add(b.toString());
                names.removeAll(Arrays.asList(TOLD));
                most = 7;
            }
            StringBuilder text = new StringBuilder();
            for (String name : names) {
                text.append("has ").append(name).append(';');
            }
            SpanCopier x = new SpanCopier();
            Check.is("order() of " + text, Check.order(x, text.toString()), 10);
            Check.is("count(6) of " + text, x.count(6), 10);
            String again = names.iterator().next();
            Check.is("told again", Check.order(x, text + "has " + again + ";"), -1 - text.length() - 4);
        }
        order("has q;has aa;has qa;has aaa;", 4);
    }

    private static void numbers() {
        Check.says("NUMBERS: 1 to 3 digits");
        SpanCopier x = new SpanCopier();
        for (String eight : new String[] {"8", "08", "008"}) {
            Check.is("order()", Check.order(x, "chunk 9;"), 1);
            Check.is("order()", Check.order(x, "chunk " + eight + ";"), 1);
            Check.is("count(0) of " + eight, x.count(0), 8);
        }
        orderFault("chunk 0008;", 1, 6);
        orderFault("chunk 1000;", 1, 6);
        orderFault("chunk 999;", 2, 6);
        // Numbers that an int would wrap to one that is allowed.
        orderFault("chunk 4294967304;", 1, 6);
        orderFault("delay 18446744073709551617;", 1, 6);
        bookFault("tick 4294967297;", 1, 5);
        bookFault("lose 4294967296;", 1, 5);
        sentenceFault("from<4294967296", 1, 5);
        orderFault("chunk " + Check.times("0", 800) + "8;", 1, 6);
        orderFault("chunk /;", 1, 6);
        orderFault("chunk :;", 1, 6);
        orderFault("chunk -1;", 1, 6);
        orderFault("chunk +1;", 1, 6);
    }

    private static void tokensGoOn() {
        Check.says("A WORD, NUMBER goes on as long as small letters and digits do; what is not as told is no TOKEN.");
        orderFault("chunk 8a;", 1, 6);
        orderFault("chunk a8;", 1, 6);
        orderFault("chunk8;", 1, 0);
        orderFault("8chunk;", 1, 0);
        orderFault("has a1;", 1, 4);
        orderFault("has 1a;", 1, 4);
        orderFault("chunk 8A;", 1, 7);
        orderFault("has aA;", 1, 5);
        orderFault("has a_b;", 1, 5);
        bookFault("tick1;", 1, 0);
        bookFault("ticktick 1;", 1, 0);
        sentenceFault("from<1a", 1, 5);
        sentenceFault("notdata", 1, 0);
        sentenceFault("data1", 1, 0);
        sentenceFault("from<1or data", 1, 5);
        order("chunk 8;has a;", 2);
    }

    private static void signs() {
        Check.says("; < = > ( ) .");
        String[] text = {";", "<", "=", ">", "(", ")", "."};
        for (String sign : text) {
            orderFault(sign, 1, 0);
            bookFault(sign, 1, 0);
            orderFault("has a" + (sign.equals(";") ? "" : sign), 1, 5);
        }
        for (String sign : new String[] {";", "<", "=", ">", ")", "."}) {
            sentenceFault(sign, 1, 0);
            sentenceFault("data" + sign, 1, 4);
        }
        sentenceFault("from.1", 1, 4);
        sentenceFault("from(1", 1, 4);
    }

    private static void orderLength() {
        Check.says("An ORDER is a text of at most 900 bytes");
        order("", 0);
        order(Check.blanks(900), 0);
        order("has a;" + Check.blanks(893), 1);
        order("has a;" + Check.blanks(894), 1);
        order(Check.blanks(894) + "has a;", 1);
        orderFault(Check.blanks(901), 1, 900);
        orderFault("has a;" + Check.blanks(895), 1, 900);
        orderFault(Check.blanks(895) + "has a;", 1, 900);
        orderFault(Check.blanks(894) + "has a;\n", 1, 900);
    }

    private static void setting(String quote, String word, int which, int most, int without) {
        Check.says(quote);
        SpanCopier x = new SpanCopier();
        Check.is("count(" + which + ") without", x.count(which), without);
        for (int n = 1; n <= most; n++) {
            Check.is("order() of " + word + n, Check.order(x, word + " " + n + ";"), 1);
            Check.is("count(" + which + ")", x.count(which), n);
        }
        int place = word.length() + 1;
        for (int n : new int[] {0, most + 1, 100, 999}) {
            Check.is("order() of " + word + n, Check.order(x, word + " " + n + ";"), -1 - place);
            Check.is("fault()", x.fault(), 2);
            Check.is("count(" + which + ") stays", x.count(which), most);
        }
        Check.is("order() without", Check.order(x, ""), 0);
        Check.is("count(" + which + ") without", x.count(which), without);
        orderFault(word, 1, word.length());
        orderFault(word + ";", 1, word.length());
        orderFault(word + " a;", 1, place);
        orderFault(word + " 1 1;", 1, place + 2);
        orderFault(word + " 1", 1, place + 1);
    }

    private static void settings() {
        setting("'chunk' N (1 to 32; 8 without)", "chunk", 0, 32, 8);
        setting("'delay' N (1 to 9; 2 without)", "delay", 2, 9, 2);
        setting("'wait' N (1 to 60; 12 without)", "wait", 3, 60, 12);
        setting("'tries' N (1 to 9; 3 without)", "tries", 4, 9, 3);
        setting("'save' N (1 to 60; 1 without)", "save", 5, 60, 1);
    }

    private static void policies() {
        Check.says("'policy' ( 'now' | 'end' | 'asked' ) ('end' without)");
        SpanCopier x = new SpanCopier();
        String[] all = {"now", "end", "asked"};
        for (int i = 0; i < 3; i++) {
            Check.is("order()", Check.order(x, "policy " + all[i] + ";chunk 5;"), 2);
            Check.is("count(1)", x.count(1), i);
            Check.is("count(0)", x.count(0), 5);
        }
        Check.order(x, "");
        Check.is("count(1) without", x.count(1), 1);
        orderFault("policy;", 1, 6);
        orderFault("policy 1;", 1, 7);
        orderFault("policy chunk;", 1, 7);
        orderFault("policy a;", 1, 7);
        orderFault("policy now end;", 1, 11);
    }

    private static void eachOnce() {
        Check.says("each of these once");
        String[] lines = {"chunk 1;", "policy now;", "delay 1;", "wait 1;", "tries 1;", "save 1;", "to a;"};
        StringBuilder all = new StringBuilder();
        for (String line : lines) {
            orderFault(line + line, 3, line.length());
            orderFault(line + "has b;" + line, 3, line.length() + 6);
            all.append(line);
        }
        order(all.toString(), 7);
        for (String line : lines) {
            orderFault(all + line, 3, all.length());
        }
        orderFault("chunk 1;chunk 99;", 3, 8);
        orderFault("to a;to chunk;", 3, 5);
        SpanCopier x = new SpanCopier();
        for (int i = 0; i < 2; i++) {
            Check.is("a FAULT forgets what was told", Check.order(x, "chunk 1;tries 10;"), -15);
            Check.is("another ORDER may tell it", Check.order(x, "chunk 1;tries 1;"), 2);
        }
    }

    private static void hasOnce() {
        Check.says("'has' NAME (once of each)");
        order("has a;has b;has c;", 3);
        order("has a;to a;act make a;act drop a;", 4);
        order("to a;has a;", 2);
        order("act make a;has a;", 2);
        orderFault("has a;has a;", 3, 10);
        orderFault("has a;has b;has b;", 3, 16);
        orderFault("to a;has a;has a;", 3, 15);
        orderFault("has;", 1, 3);
        orderFault("has a b;", 1, 6);
    }

    private static void acts() {
        Check.says("(two NAMES are unlike)");
        order("act move a b;act move b a;act copy a b;act copy b a;act move a b;", 5);
        order("act make a;act make a;act drop a;", 3);
        orderFault("act move a a;", 3, 11);
        orderFault("act copy a a;", 3, 11);
        orderFault("act copy a b;act copy b b;", 3, 24);
        orderFault("act;", 1, 3);
        orderFault("act 1;", 1, 4);
        orderFault("act has a;", 1, 4);
        orderFault("act make;", 1, 8);
        orderFault("act drop a b;", 1, 11);
        orderFault("act move a;", 1, 10);
        orderFault("act copy a b c;", 1, 13);
    }

    private static void toOnceOrNot() {
        Check.says("'to' NAME (none without)");
        SpanCopier x = Check.with("delay 1;wait 60;act make a;", 1);
        x.ticks(20);
        Check.is("store() without", x.store(), 1);
        x = Check.with("delay 1;wait 60;to b;act make a;", 1);
        x.ticks(20);
        Check.is("store() with", x.store(), 3);
        Check.order(x, "delay 1;wait 60;");
        Check.file(x, 1);
        x.ticks(20);
        Check.is("store() of another ORDER without", x.store(), 0);
        orderFault("to;", 1, 2);
        orderFault("to 1;", 1, 3);
        orderFault("to a b;", 1, 5);
    }

    private static void names() {
        Check.says("NAME: a WORD, none of those told here, in a BOOK or a SENTENCE");
        for (String word : TOLD) {
            orderFault("has " + word + ";", 1, 4);
            orderFault("to " + word + ";", 1, 3);
            orderFault("act make " + word + ";", 1, 9);
            orderFault("act move a " + word + ";", 1, 11);
            order("has " + word.substring(1) + "x;", 1);
        }
        Check.says("they are numbered from 0 as they come first");
        SpanCopier x = new SpanCopier();
        Check.order(x, "act move e d;has d;to c;has b;act make a;has e;");
        Check.is("count(6)", x.count(6), 5);
        Check.is("e 0, d 1, b 3", x.store(), 0b1011);
    }

    private static void tenNames() {
        Check.says("10 NAMES, 6 ACTS at most");
        order(TEN, 10);
        order(TEN + "to j;act move a j;act copy j a;act make a;", 14);
        SpanCopier x = new SpanCopier();
        Check.order(x, TEN);
        Check.is("count(6)", x.count(6), 10);
        Check.is("store()", x.store(), 1023);
        Check.says("4 an 11th NAME (at it)");
        orderFault(TEN + "has k;", 4, 64);
        orderFault(TEN + "to k;", 4, 63);
        orderFault(TEN + "act make k;", 4, 69);
        orderFault(TEN + "act drop k;", 4, 69);
        orderFault(TEN + "act move k k;", 4, 69);
        orderFault(TEN + "act move a k;", 4, 71);
        orderFault(TEN + "act copy a k;", 4, 71);
        orderFault(TEN + "has a;", 3, 64);
    }

    private static void sixActs() {
        Check.says("a seventh 'act'");
        order(Check.times("act make a;", 6), 6);
        SpanCopier x = new SpanCopier();
        Check.order(x, Check.times("act drop a;", 6));
        Check.is("count(7)", x.count(7), 6);
        orderFault(Check.times("act make a;", 7), 4, 66);
        orderFault(Check.times("act make a;", 6) + "act", 4, 66);
        orderFault(Check.times("act make a;", 6) + "act 1;", 4, 66);
        orderFault(Check.times("act make a;", 6) + "has b; act drop b;", 4, 73);
        order(Check.times("act make a;", 6) + "has b;", 7);
    }

    private static void linesEnd() {
        Check.says("{ LINE ; }. LINE:");
        orderFault(";", 1, 0);
        orderFault("has a;;", 1, 6);
        orderFault("has a has b;", 1, 6);
        orderFault("a;", 1, 0);
        orderFault("now;", 1, 0);
        orderFault("tick 1;", 1, 0);
        orderFault("data;", 1, 0);
        order(Check.times("has a;", 1) + "to b;", 2);
    }

    private static void bookLength() {
        Check.says("A BOOK is a text of at most 400 bytes");
        book("", -1);
        book(Check.blanks(400), -1);
        book("tick 1;" + Check.blanks(392), -1);
        book("tick 1;" + Check.blanks(393), -1);
        book(Check.blanks(393) + "tick 1;", -1);
        bookFault(Check.blanks(401), 1, 400);
        bookFault("tick 1;" + Check.blanks(394), 1, 400);
        bookFault(Check.blanks(394) + "tick 1;", 1, 400);
        bookFault(Check.blanks(940), 1, 400);
    }

    private static void fortyLines() {
        Check.says("{ LINE ; }, 40 at most");
        book(Check.times("tick 1;", 39), -1);
        book(Check.times("tick 1;", 40), -1);
        book(Check.times("tick 1;", 40) + " \n", -1);
        Check.says("a 41st LINE of a BOOK (at the LINE's first WORD)");
        bookFault(Check.times("tick 1;", 41), 4, 280);
        bookFault(Check.times("tick 1;", 40) + "  lose 99;", 4, 282);
        bookFault(Check.times("tick 1;", 40) + "crash", 4, 280);
        bookFault(Check.times("tick 1;", 40) + ";", 1, 280);
        bookFault(Check.times("tick 1;", 40) + "has a;", 1, 280);
    }

    private static void bookNumbers() {
        Check.says("'lose' K | 'twice' K | 'late' K N (1 to 60) | 'spoil' K (K: 0 to 39 each)");
        String[] words = {"lose ", "twice ", "late ", "spoil "};
        for (String word : words) {
            String rest = word.equals("late ") ? " 1;" : ";";
            book(word + "0" + rest, -1);
            book(word + "000" + rest, -1);
            book(word + "39" + rest, 0);
            book(word + "039" + rest, 0);
            bookFault(word + "40" + rest, 2, word.length());
            bookFault(word + "999" + rest, 2, word.length());
            bookFault(word + rest, 1, word.equals("late ") ? 7 : word.length());
            bookFault(word + "a" + rest, 1, word.length());
        }
        book("late 0 1;", -1);
        book("late 0 60;", -1);
        bookFault("late 0 0;", 2, 7);
        bookFault("late 0 61;", 2, 7);
        bookFault("late 40 61;", 2, 5);
        bookFault("late 0;", 1, 6);
        bookFault("lose 0 1;", 1, 7);
        Check.says("'tick' N (1 to 60)");
        book("tick 1;", -1);
        book("tick 60;", -1);
        bookFault("tick 0;", 2, 5);
        bookFault("tick 61;", 2, 5);
        bookFault("tick;", 1, 4);
        Check.says("'prompt' | 'crash'");
        book("prompt;crash;", -1);
        bookFault("prompt 1;", 1, 7);
        bookFault("crash 0;", 1, 6);
    }

    private static void sentenceLength() {
        Check.says("A SENTENCE is a text of at most 200 bytes");
        sentence("data" + Check.blanks(195), 1);
        sentence("data" + Check.blanks(196), 1);
        sentence(Check.blanks(196) + "data", 1);
        sentenceFault("data" + Check.blanks(197), 1, 200);
        sentenceFault(Check.blanks(197) + "data", 1, 200);
        sentenceFault(Check.blanks(200), 1, 200);
        sentenceFault(Check.blanks(201), 1, 200);
        sentenceFault("", 1, 0);
        sentenceFault("\n", 1, 1);
    }

    private static void measures() {
        Check.says("( 'from' | 'many' | 'ticks' | 'number' ) SIGN NUMBER");
        for (String word : new String[] {"from", "many", "ticks", "number"}) {
            for (String sign : new String[] {"<", "=", ">"}) {
                sentence(word + sign + "0", 1);
                sentence(word + sign + "999", 1);
                sentenceFault(word + sign + "1000", 1, word.length() + 1);
                sentenceFault(word + sign, 1, word.length() + 1);
                sentenceFault(word + sign + sign + "1", 1, word.length() + 1);
                sentenceFault(word + sign + "data", 1, word.length() + 1);
            }
            sentenceFault(word, 1, word.length());
            sentenceFault(word + " 1", 1, word.length() + 1);
            sentenceFault(word + "<1 2", 1, word.length() + 3);
        }
    }

    private static void twentyOnes() {
        Check.says("20 ONES");
        sentence("out" + Check.times(" or fin", 19), 20);
        sentence("out" + Check.times(" and fin", 19), 20);
        sentence("not(" + "out" + Check.times(" or fin", 17) + ")", 20);
        sentence("(out)" + Check.times("or(fin)", 9), 20);
        sentence("not out" + Check.times(" and not fin", 9), 20);
        Check.says("a 21st ONE");
        sentenceFault("out" + Check.times(" or fin", 20), 4, 140);
        sentenceFault("out" + Check.times(" and fin", 20), 4, 160);
        sentenceFault("out" + Check.times(" or fin", 19) + " and from<1", 4, 141);
        sentenceFault("out" + Check.times(" or fin", 19) + " or not fin", 4, 140);
        sentenceFault("out" + Check.times(" or fin", 19) + " or(fin)", 4, 139);
        sentenceFault("out" + Check.times(" or fin", 18) + " or not fin", 4, 137);
        sentenceFault("out" + Check.times(" or fin", 18) + " or(fin)", 4, 133);
    }

    private static void eightWithin() {
        Check.says("8 within one another");
        sentence(Check.times("not ", 7) + "data", 8);
        sentence(Check.times("(", 7) + "data" + Check.times(")", 7), 8);
        sentence("not(not(not(not data)))", 8);
        sentence(Check.times("(", 7) + "data or eof and nak" + Check.times(")", 7), 10);
        sentence(Check.times("(", 7) + "data" + Check.times(")", 7) + "or" + Check.times("(", 7) + "eof"
                + Check.times(")", 7), 16);
        sentence(Check.times("not ", 7) + "from<1 and " + Check.times("not ", 7) + "data", 16);
        Check.says("a ninth within (at its first TOKEN)");
        sentenceFault(Check.times("not ", 8) + "data", 4, 32);
        sentenceFault(Check.times("(", 8) + "data" + Check.times(")", 8), 4, 8);
        sentenceFault(Check.times("(", 7) + "not data" + Check.times(")", 7), 4, 11);
        sentenceFault(Check.times("not ", 8) + "not data", 4, 32);
        sentenceFault(Check.times("(", 8) + "(data" + Check.times(")", 9), 4, 8);
        sentenceFault(Check.times("(", 7) + "data and not eof" + Check.times(")", 7), 4, 20);
        sentenceFault("data or " + Check.times("not ", 8) + "data", 4, 40);
    }

    private static void grammarOfSentences() {
        Check.says("COND: ALL { 'or' ALL }. ALL: ONE { 'and' ONE }.");
        sentenceFault("data data", 1, 5);
        sentenceFault("data or", 1, 7);
        sentenceFault("data and", 1, 8);
        sentenceFault("data or or data", 1, 8);
        sentenceFault("data or and data", 1, 8);
        sentenceFault("and data", 1, 0);
        sentenceFault("data not eof", 1, 5);
        Check.says("ONE: 'not' ONE | ( COND )");
        sentenceFault("not", 1, 3);
        sentenceFault("not or", 1, 4);
        sentenceFault("()", 1, 1);
        sentenceFault("(data", 1, 5);
        sentenceFault("(data;", 1, 5);
        sentenceFault("data)", 1, 4);
        sentenceFault("((data)", 1, 7);
        sentenceFault("a", 1, 0);
        sentenceFault("chunk", 1, 0);
        sentenceFault("tick", 1, 0);
        sentenceFault("1", 1, 0);
    }

    private static void faultKinds() {
        Check.says("1 no TOKEN, or one that can't come (at it");
        orderFault("chunk 8; ?", 1, 9);
        orderFault("chunk 8; 8", 1, 9);
        orderFault("chunk 8 \n 8;", 1, 10);
        bookFault("tick 1; crash crash;", 1, 14);
        sentenceFault("data and ?", 1, 9);
        sentenceFault("data and ;", 1, 9);
        Check.says("2 a NUMBER that is not as told (at it)");
        orderFault("chunk \n 33;", 2, 8);
        orderFault("chunk 33", 2, 6);
        orderFault("chunk 33?", 2, 6);
        bookFault("late 39  61;", 2, 9);
        bookFault("late  40 61;", 2, 6);
        Check.says("3 one of those told once told again (at the WORD)");
        orderFault("chunk 8; chunk", 3, 9);
        orderFault("to a;has b;\nto", 3, 12);
        Check.says("a NAME of 'has' told so again");
        orderFault("has abc;has  abc", 3, 13);
        Check.says("the second of two NAMES that are alike (at it)");
        orderFault("act move abc  abc", 3, 14);
        order("act move abc ab;act copy ab abc;", 2);
        Check.says("-1 less the place of a FAULT: it stays.");
        SpanCopier x = busy();
        Check.is("a FAULT at 0", Check.sentence(x, ";"), -1);
        Check.is("said(-1)", x.said(-1), 2);
        Check.says("-2 less the place of a FAULT");
        Check.is("a FAULT at 0", Check.book(x, "data;", 0), -2);
    }

    private static void firstAlongTheText() {
        Check.says("FAULTS, the first along the text");
        orderFault("chunk 0;delay 0;", 2, 6);
        orderFault("has a;has a;chunk 99;", 3, 10);
        orderFault("chunk 99;?", 2, 6);
        orderFault("?chunk 99;", 1, 0);
        orderFault(TEN + "to k;to l;", 4, 63);
        orderFault(TEN + "to ?;to k;", 1, 63);
        bookFault("late 40 61;", 2, 5);
        bookFault("late 39 61;late 40 1;", 2, 8);
        sentenceFault("from<? or data)", 1, 5);
    }

    private static void ofOneTokenTheLeast() {
        Check.says("of one TOKEN the least");
        orderFault(TEN + "to crash;", 1, 63);
        orderFault(TEN + "act make 1;", 1, 69);
        orderFault("chunk 1;chunk chunk;", 3, 8);
        orderFault("chunk chunk;", 1, 6);
        bookFault(Check.times("tick 1;", 40) + "ticks 1;", 1, 280);
        sentenceFault("out" + Check.times(" or fin", 19) + " or tick", 1, 140);
        sentenceFault("out" + Check.times(" or fin", 19) + " or )", 1, 140);
        sentenceFault(Check.times("not ", 8) + "tick", 1, 32);
        sentenceFault(Check.times("(", 8) + ")", 1, 8);
        sentenceFault(Check.times("(", 8), 1, 8);
    }

    private static void theEnd() {
        Check.says("the end: how many bytes there are");
        orderFault("has", 1, 3);
        orderFault("has  ", 1, 5);
        orderFault("has a", 1, 5);
        orderFault("has a\n\n", 1, 7);
        orderFault(Check.blanks(897) + "has", 1, 900);
        bookFault("tick", 1, 4);
        bookFault("late 1 ", 1, 7);
        sentenceFault("not ", 1, 4);
        sentenceFault("(data ", 1, 6);
        sentenceFault("data or ", 1, 8);
    }

    private static void readWhole() {
        Check.says("the most bytes told, if there are more and no FAULT is ahead: TOKENS that begin ahead of it are"
                + " read whole");
        orderFault(Check.blanks(895) + "has zzzzzzz;", 1, 900);
        orderFault(Check.blanks(895) + "has zzzzzzzz;", 1, 899);
        orderFault(Check.blanks(895) + "has zzz1;", 1, 899);
        orderFault(Check.blanks(895) + "has spoilt;", 1, 899);
        orderFault("has zz;" + Check.blanks(888) + "has zz;", 3, 899);
        orderFault("has z;" + Check.blanks(889) + "has zz;", 1, 900);
        orderFault(TEN + Check.blanks(835) + "has ab;", 4, 899);
        orderFault(TEN + Check.blanks(836) + "has ab;", 1, 900);
        orderFault(Check.times("act make a;", 6) + Check.blanks(832) + "act make a;", 4, 898);
        orderFault(Check.times("act make a;", 6) + Check.blanks(834) + "act make a;", 1, 900);
        orderFault(Check.blanks(893) + "chunk 33;", 2, 899);
        orderFault(Check.blanks(894) + "chunk 33;", 1, 900);
        orderFault(Check.blanks(893) + "chunk 32;", 1, 900);
        orderFault(Check.blanks(893) + "chunk 0032;", 1, 899);
        orderFault(Check.blanks(899) + "?" + Check.blanks(5), 1, 899);
        bookFault(Check.blanks(394) + "tick 61;", 2, 399);
        bookFault(Check.blanks(395) + "tick 61;", 1, 400);
        bookFault(Check.blanks(394) + "tick 60;", 1, 400);
        bookFault(Check.times("crash;", 40) + Check.blanks(159) + "crash;", 4, 399);
        bookFault(Check.times("crash;", 40) + Check.blanks(160) + "crash;", 1, 400);
        bookFault(Check.blanks(399) + "crashed;", 1, 399);
        sentenceFault("out" + Check.times(" or fin", 19) + Check.blanks(61) + "orfin", 1, 197);
        sentenceFault("out" + Check.times(" or fin", 19) + " or" + Check.blanks(60) + "spoilt", 4, 199);
        sentenceFault("out" + Check.times(" or fin", 19) + " or" + Check.blanks(61) + "spoilt", 1, 200);
        sentenceFault(Check.blanks(199) + "spoilt", 1, 200);
        sentenceFault(Check.blanks(199) + "spoil", 1, 199);
        sentenceFault(Check.blanks(199) + "spoilts", 1, 199);
        sentenceFault("from<" + Check.blanks(194) + "1000", 1, 199);
        sentenceFault("from<" + Check.blanks(194) + "999", 1, 200);
    }

    private static void fullTape() {
        Check.says("if it would have more than 940");
        orderFault(Check.blanks(940), 1, 900);
        orderFault(Check.times("a", 940), 1, 0);
        orderFault(Check.times("1", 940), 1, 0);
        bookFault(Check.times("a", 940), 1, 0);
        sentenceFault(Check.times("1", 940), 1, 0);
        sentenceFault(Check.times("(", 940), 4, 8);
        orderFault(Check.blanks(899) + Check.times("a", 41), 1, 899);
        orderFault(Check.times("has a;", 150) + Check.times("x", 40), 3, 10);
    }
}
