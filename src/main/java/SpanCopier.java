import java.util.Arrays;
import java.util.NoSuchElementException;

/** A deep-space file copier; ../shared/DOC.md has the promises, README.md how to use it. */
public final class SpanCopier {
    public static final int NONE = -1;

    private static final int ORDER_BYTES = 900;
    private static final int BOOK_BYTES = 400;
    private static final int SENTENCE_BYTES = 200;
    private static final int FILE_BYTES = 240;
    private static final int MOST_TICKS = 60;
    private static final int TICKS_IN_ALL = 2000;
    private static final int OVER_TICKS = 3000;
    private static final int ODDS_SEEDS = 20;
    private static final int ODDS_TICKS = 300;
    private static final int NO_SUCH_LIVES = -1000;
    private static final int MOST_KEPT = 8;

    private static final int CANNOT_COME = 1;
    private static final int WRONG_NUMBER = 2;
    private static final int TOLD_AGAIN = 3;
    private static final int TOO_MANY = 4;

    private final Tape tape = new Tape();
    private final Book lines = new Book();
    private final World world = new World();
    private final World[] images = new World[2];
    private final World[] kept = new World[MOST_KEPT];
    private final int[] ends = new int[3];
    private final int[] judged = new int[4];
    private World looked = new World();
    private World spare;
    private int oldest;
    private int undoable;
    private int faultKind;

    public SpanCopier() {
        Arrays.fill(ends, NONE);
        Arrays.fill(judged, NONE);
    }

    public int feed(int a, int b, int c, int d, int e) {
        if (tape.length + 20 > Tape.MOST) {
            return NONE;
        }
        tape.put(a);
        tape.put(b);
        tape.put(c);
        tape.put(d);
        tape.put(e);
        return tape.length;
    }

    public boolean end(int n) {
        if (n < 0 || n > tape.length) {
            return false;
        }
        tape.length = n;
        return true;
    }

    public int order() {
        tape.open(ORDER_BYTES);
        Order made = new Order();
        int told = made.readLines(tape);
        closeText();
        if (faultKind != 0) {
            return -1 - tape.faultPlace;
        }
        world.begin(made);
        return told;
    }

    private void closeText() {
        tape.length = 0;
        faultKind = tape.faultKind;
    }

    public int fault() {
        return faultKind;
    }

    public int file() {
        int many = tape.length;
        if (many < 1 || many > FILE_BYTES) {
            return NONE;
        }
        lookBefore();
        world.load(Arrays.copyOf(tape.bytes, many));
        keepLooked();
        tape.length = 0;
        return many;
    }

    /** Ahead of a call that may turn out not to change anything. */
    private void lookBefore() {
        looked.copyFrom(world);
    }

    /** What was looked at can be gone back to; the world that it displaces is used again. */
    private void keepLooked() {
        int place = (oldest + undoable) & (MOST_KEPT - 1);
        World displaced = kept[place];
        kept[place] = looked;
        looked = displaced == null ? new World() : displaced;
        if (undoable < MOST_KEPT) {
            undoable++;
        } else {
            oldest = (oldest + 1) & (MOST_KEPT - 1);
        }
    }

    public int ticks(int n) {
        if (n < 1 || n > MOST_TICKS) {
            return NONE;
        }
        lookBefore();
        return keptIfAbove(world.passTicks(n));
    }

    private int keptIfAbove(int many) {
        if (many > 0) {
            keepLooked();
        }
        return many;
    }

    public int lose(int k) {
        lookBefore();
        return keptIfDone(world.link.remove(k));
    }

    private int keptIfDone(int why) {
        if (why == 0) {
            keepLooked();
        }
        return why;
    }

    public int twice(int k) {
        lookBefore();
        return keptIfDone(world.link.repeat(k));
    }

    public int late(int k, int n) {
        if (n < 1 || n > MOST_TICKS) {
            return NONE;
        }
        lookBefore();
        return keptIfDone(world.link.delay(k, n));
    }

    public int spoil(int k) {
        lookBefore();
        return keptIfDone(world.link.flip(k));
    }

    public int prompt() {
        lookBefore();
        return keptIfDone(world.sendPrompt());
    }

    public int crash() {
        lookBefore();
        return keptIfDone(world.crashTaker());
    }

    public int undo() {
        if (undoable == 0) {
            return NONE;
        }
        World ahead = kept[(oldest + undoable - 1) & (MOST_KEPT - 1)];
        if (ahead == null) {
            return NONE;
        }
        world.copyFrom(ahead);
        undoable--;
        return undoable;
    }

    public int now(int what) {
        switch (what) {
            case 0: return world.tick;
            case 1: return world.sender.state;
            case 2: return world.taker.state;
            case 3: return world.link.size;
            case 4: return world.taker.gaps.countSpans();
            case 5: return world.sender.resends.countSpans();
            case 6: return world.taker.end;
            case 7: return world.sender.next;
            case 8: return world.taker.code;
            case 9: return world.taker.knows ? 1 : 0;
            case 10: return world.link.sent;
            case 11: return world.file.length;
            default: return NONE;
        }
    }

    public int unit(int k, int what) throws NoSuchElementException {
        Link link = world.link;
        if (!link.has(k) || what < 0 || what > 5) {
            throw new NoSuchElementException();
        }
        switch (what) {
            case 0: return link.get(k, Link.KIND);
            case 1: return Link.goesOut(link.get(k, Link.KIND)) ? 0 : 1;
            case 2: return link.get(k, Link.DUE) - world.tick;
            case 3: return link.get(k, Link.FROM);
            case 4: return link.get(k, Link.MANY);
            default: return link.get(k, Link.SPOILT);
        }
    }

    public int span(int k, int i, int what) {
        Link link = world.link;
        if (!link.has(k) || link.get(k, Link.KIND) != Link.NAK) {
            return NONE;
        }
        if (i < 0 || i >= link.get(k, Link.FROM) || what < 0 || what > 1) {
            return NONE;
        }
        int packed = link.get(k, Link.SPANS + i);
        return what == 0 ? Link.spanFrom(packed) : Link.spanTo(packed);
    }

    public int gap(int k, int what) {
        return world.taker.gaps.edge(k, what);
    }

    public int resend(int k, int what) {
        return world.sender.resends.edge(k, what);
    }

    public int taken(int i) {
        return world.taker.byteAt(i);
    }

    public int sum(int what) throws NoSuchElementException {
        if (what != 0 && what != 1) {
            throw new NoSuchElementException();
        }
        return what == 0 ? world.fileSum : world.taker.sumOfBytes();
    }

    public int store() {
        return world.shelf.store;
    }

    public int journal(int k) {
        return world.shelf.entry(k);
    }

    public int need() {
        return world.file.length == 0 ? NONE : world.countNeed();
    }

    public int over() {
        if (world.file.length == 0) {
            return NONE;
        }
        World trial = trialWorld();
        int passed = trial.passUntilOver();
        if (passed != NONE) {
            ends[0] = trial.sender.state;
            ends[1] = trial.taker.state;
            ends[2] = trial.link.sent;
        }
        return passed;
    }

    /** A world like this one, to try things in; made once, as what a run makes is counted. */
    private World trialWorld() {
        if (spare == null) {
            spare = new World();
        }
        spare.copyFrom(world);
        return spare;
    }

    public int overAs(int what) {
        return what < 0 || what >= ends.length ? NONE : ends[what];
    }

    public int drawn(int n, int seed) {
        if (n < 1 || n > MOST_TICKS) {
            return NONE;
        }
        lookBefore();
        world.seed = seed;
        int passed = 0;
        while (passed < n && world.tick < TICKS_IN_ALL) {
            world.drawWhatHappens();
            world.passTick();
            passed++;
        }
        return keptIfAbove(passed);
    }

    public int odds(int n, int seed) {
        if (n < 1 || n > ODDS_SEEDS || world.file.length == 0) {
            return NONE;
        }
        int done = 0;
        for (int i = 0; i < n; i++) {
            if (isDoneByDraws(seed + i)) {
                done++;
            }
        }
        return done;
    }

    /** An end that is DONE or FAILED stays so whatever is drawn: the rest need not be gone through. */
    private boolean isDoneByDraws(int seed) {
        World trial = trialWorld();
        trial.seed = seed;
        for (int i = 0; i < ODDS_TICKS && trial.tick < TICKS_IN_ALL; i++) {
            if (trial.bothDone() || trial.oneFailed()) {
                break;
            }
            trial.drawWhatHappens();
            trial.passTick();
        }
        return trial.bothDone();
    }

    public int book(int lives) {
        if (lives != 0 && lives != 1) {
            return NO_SUCH_LIVES;
        }
        tape.open(BOOK_BYTES);
        lines.readLines(tape);
        closeText();
        if (faultKind != 0) {
            return -2 - tape.faultPlace;
        }
        lookBefore();
        World judging = lives == 0 ? trialWorld() : world;
        int line = 0;
        int why = 0;
        while (line < lines.many && why == 0) {
            why = judging.live(lines, line);
            line += why == 0 ? 1 : 0;
        }
        keptIfAbove(lives == 0 ? 0 : line);
        tellJudged(why, line, judging);
        return why == 0 ? NONE : line;
    }

    private void tellJudged(int why, int line, World then) {
        judged[0] = why;
        judged[1] = line;
        judged[2] = then.tick;
        judged[3] = then.link.size;
    }

    public int told(int what) {
        return what < 0 || what >= judged.length ? NONE : judged[what];
    }

    public int sentence() {
        tape.open(SENTENCE_BYTES);
        Sentence made = new Sentence();
        if (made.readCond(tape, 1) && tape.kind != Tape.END) {
            tape.fail(CANNOT_COME);
        }
        closeText();
        if (faultKind != 0) {
            return -1 - tape.faultPlace;
        }
        world.sentence = made;
        return made.ones;
    }

    public int said(int k) {
        Sentence asked = world.sentence;
        if (asked == null || k < NONE) {
            return NONE;
        }
        int found = 0;
        for (int u = 0; u < world.link.size; u++) {
            if (asked.holds(world.link, u, world.tick)) {
                if (found == k) {
                    return u;
                }
                found++;
            }
        }
        return k == NONE ? found : NONE;
    }

    public boolean image(int k) {
        if (k < 0 || k >= images.length) {
            return false;
        }
        World copy = images[k];
        if (copy == null) {
            copy = new World();
            images[k] = copy;
        }
        copy.copyFrom(world);
        return true;
    }

    public boolean restore(int k) {
        if (k < 0 || k >= images.length) {
            return false;
        }
        World copy = images[k];
        if (copy == null) {
            return false;
        }
        world.copyFrom(copy);
        undoable = 0;
        return true;
    }

    public int count(int what) {
        switch (what) {
            case 6: return world.order.names;
            case 7: return world.order.acts;
            case 8: return tape.length;
            default: return world.order.setting(what);
        }
    }

    /** The WORDS that a text gives a meaning; none of them is a NAME. */
    private enum Word {
        OTHER(""),
        CHUNK("chunk"), POLICY("policy"), NOW("now"), END("end"), ASKED("asked"),
        DELAY("delay"), WAIT("wait"), TRIES("tries"), SAVE("save"), TO("to"), HAS("has"),
        ACT("act"), MAKE("make"), DROP("drop"), MOVE("move"), COPY("copy"),
        LOSE("lose"), TWICE("twice"), LATE("late"), SPOIL("spoil"), PROMPT("prompt"),
        CRASH("crash"), TICK("tick"),
        OR("or"), AND("and"), NOT("not"), DATA("data"), EOF("eof"), NAK("nak"), ACK("ack"),
        FIN("fin"), OUT("out"), SPOILT("spoilt"), FROM("from"), MANY("many"),
        TICKS("ticks"), NUMBER("number");

        private static final Word[] ALL = values();

        private final long code;

        Word(String text) {
            long sum = 0;
            for (int i = 0; i < text.length(); i++) {
                sum = withLetter(sum, text.charAt(i));
            }
            code = sum;
        }

        /** At most seven letters of five bits: unlike WORDS have unlike codes. */
        private static long withLetter(long code, int letter) {
            return code << 5 | (letter & 31);
        }

        private static Word of(long code) {
            for (int i = 0; i < ALL.length; i++) {
                if (ALL[i].code == code) {
                    return ALL[i];
                }
            }
            return OTHER;
        }
    }

    /** The bytes that came by feed(), read TOKEN by TOKEN; keeps the first FAULT that is found. */
    private static final class Tape {
        private static final int MOST = 940;
        private static final int END = 0;
        private static final int BAD = 1;
        private static final int WORD = 2;
        private static final int NUMBER = 3;
        private static final int WORD_LETTERS = 7;
        private static final int NUMBER_DIGITS = 3;

        private final byte[] bytes = new byte[MOST];
        private int length;
        private int limit;
        private int behind;
        private int kind;
        private int place;
        private int number;
        private long code;
        private Word word = Word.OTHER;
        private int faultKind;
        private int faultPlace;

        private void put(int value) {
            for (int shift = 24; shift >= 0 && length < MOST; shift -= 8) {
                bytes[length] = (byte) (value >> shift);
                length++;
            }
        }

        /** Goes to the first TOKEN of a text of at most so many bytes. */
        private void open(int most) {
            limit = Math.min(length, most);
            behind = 0;
            faultKind = 0;
            faultPlace = 0;
            step();
        }

        /** Always false, so that a reader can answer with it. */
        private boolean fail(int why) {
            if (faultKind == 0) {
                faultKind = why;
                faultPlace = place;
            }
            return false;
        }

        private int byteAt(int i) {
            return i >= 0 && i < length && i < MOST ? bytes[i] & 255 : 0;
        }

        private void step() {
            while (behind < limit && isBlank(byteAt(behind))) {
                behind++;
            }
            number = 0;
            code = 0;
            word = Word.OTHER;
            if (behind >= limit) {
                place = limit;
                kind = length > limit ? BAD : END;
                return;
            }
            place = behind;
            int first = byteAt(place);
            if (isLetter(first) || isDigit(first)) {
                readRun();
                return;
            }
            behind++;
            kind = isSign(first) ? first : BAD;
        }

        /** Not stopped by the limit: a TOKEN that begins ahead of it is read whole. */
        private void readRun() {
            int letters = 0;
            int digits = 0;
            for (; behind < length; behind++) {
                int sign = byteAt(behind);
                if (isLetter(sign)) {
                    letters++;
                    code = Word.withLetter(code, sign);
                } else if (isDigit(sign)) {
                    digits++;
                    number = number * 10 + sign - '0';
                } else {
                    break;
                }
            }
            if (digits == 0 && letters <= WORD_LETTERS) {
                kind = WORD;
                word = Word.of(code);
            } else {
                kind = letters == 0 && digits <= NUMBER_DIGITS ? NUMBER : BAD;
            }
        }

        private static boolean isBlank(int sign) {
            return sign == 32 || sign == 10;
        }

        private static boolean isLetter(int sign) {
            return sign >= 'a' && sign <= 'z';
        }

        private static boolean isDigit(int sign) {
            return sign >= '0' && sign <= '9';
        }

        private static boolean isSign(int sign) {
            return sign == ';' || isCompare(sign) || sign == '(' || sign == ')';
        }

        private static boolean isCompare(int sign) {
            return sign == '<' || sign == '=' || sign == '>';
        }

        private boolean stepToNumber(int least, int most) {
            step();
            if (kind != NUMBER) {
                return fail(CANNOT_COME);
            }
            return number >= least && number <= most || fail(WRONG_NUMBER);
        }

        /** To the ; of a LINE, and on to what is behind it. */
        private boolean stepOverEnd() {
            step();
            if (kind != ';') {
                return fail(CANNOT_COME);
            }
            step();
            return true;
        }
    }

    /** What an ORDER tells; never changed once it is read, so that worlds can share it. */
    private static final class Order {
        private static final int CHUNK = 0;
        private static final int POLICY = 1;
        private static final int DELAY = 2;
        private static final int WAIT = 3;
        private static final int TRIES = 4;
        private static final int SAVE = 5;
        private static final int[] WITHOUT = {8, 1, 2, 12, 3, 1};
        private static final int[] HIGHEST = {32, 2, 9, 60, 9, 60};
        private static final int TOLD_TO = 6;

        private static final int POLICY_NOW = 0;
        private static final int POLICY_END = 1;
        private static final int POLICY_ASKED = 2;

        private static final int MOST_LINES = ORDER_BYTES;
        private static final int MOST_NAMES = 10;
        private static final int MOST_ACTS = 6;

        private final int[] settings = new int[WITHOUT.length];
        private final Word[] actKinds = new Word[MOST_ACTS];
        private final int[] actFirsts = new int[MOST_ACTS];
        private final int[] actSeconds = new int[MOST_ACTS];
        private final long[] codes = new long[MOST_NAMES];
        private int to = NONE;
        private int names;
        private int acts;
        private int has;
        private int toldOnce;
        private int named;

        private Order() {
            System.arraycopy(WITHOUT, 0, settings, 0, settings.length);
            for (int i = 0; i < actKinds.length; i++) {
                actKinds[i] = Word.OTHER;
            }
        }

        private int setting(int which) {
            return which < 0 || which >= settings.length ? NONE : settings[which];
        }

        private int readLines(Tape in) {
            for (int lines = 0; lines < MOST_LINES; lines++) {
                if (in.kind == Tape.END) {
                    return lines;
                }
                if (!readLine(in) || !in.stepOverEnd()) {
                    return NONE;
                }
            }
            return NONE;
        }

        private boolean readLine(Tape in) {
            switch (in.word) {
                case CHUNK: return readSetting(in, CHUNK);
                case POLICY: return readPolicy(in);
                case DELAY: return readSetting(in, DELAY);
                case WAIT: return readSetting(in, WAIT);
                case TRIES: return readSetting(in, TRIES);
                case SAVE: return readSetting(in, SAVE);
                case TO: return readTo(in);
                case HAS: return readHas(in);
                case ACT: return readAct(in);
                default: return in.fail(CANNOT_COME);
            }
        }

        private boolean readSetting(Tape in, int which) {
            if (!isToldFirst(in, which) || which < 0 || which >= settings.length) {
                return false;
            }
            if (!in.stepToNumber(1, HIGHEST[which])) {
                return false;
            }
            settings[which] = in.number;
            return true;
        }

        private boolean isToldFirst(Tape in, int which) {
            if ((toldOnce >> which & 1) == 1) {
                return in.fail(TOLD_AGAIN);
            }
            toldOnce |= 1 << which;
            return true;
        }

        private boolean readPolicy(Tape in) {
            if (!isToldFirst(in, POLICY)) {
                return false;
            }
            in.step();
            switch (in.word) {
                case NOW: settings[POLICY] = POLICY_NOW; return true;
                case END: settings[POLICY] = POLICY_END; return true;
                case ASKED: settings[POLICY] = POLICY_ASKED; return true;
                default: return in.fail(CANNOT_COME);
            }
        }

        private boolean readTo(Tape in) {
            if (!isToldFirst(in, TOLD_TO) || !readName(in)) {
                return false;
            }
            to = named;
            return true;
        }

        private boolean readHas(Tape in) {
            if (!readName(in)) {
                return false;
            }
            if ((has >> named & 1) == 1) {
                return in.fail(TOLD_AGAIN);
            }
            has |= 1 << named;
            return true;
        }

        private boolean readAct(Tape in) {
            if (acts >= MOST_ACTS) {
                return in.fail(TOO_MANY);
            }
            in.step();
            Word kind = in.word;
            boolean hasSecond = kind == Word.MOVE || kind == Word.COPY;
            if (!hasSecond && kind != Word.MAKE && kind != Word.DROP) {
                return in.fail(CANNOT_COME);
            }
            if (!readName(in)) {
                return false;
            }
            int first = named;
            if (hasSecond && !readName(in)) {
                return false;
            }
            if (hasSecond && named == first) {
                return in.fail(TOLD_AGAIN);
            }
            actKinds[acts] = kind;
            actFirsts[acts] = first;
            actSeconds[acts] = named;
            acts++;
            return true;
        }

        /** The number of the next NAME is in 'named' then. */
        private boolean readName(Tape in) {
            in.step();
            if (in.kind != Tape.WORD || in.word != Word.OTHER) {
                return in.fail(CANNOT_COME);
            }
            named = 0;
            while (named < names && named < MOST_NAMES && codes[named] != in.code) {
                named++;
            }
            if (named >= MOST_NAMES) {
                return in.fail(TOO_MANY);
            }
            if (named == names) {
                codes[named] = in.code;
                names++;
            }
            return true;
        }
    }

    /** The LINES of the BOOK that was read last. */
    private static final class Book {
        private static final int MOST_LINES = 40;
        private static final int HIGHEST_UNIT = 39;

        private final Word[] words = new Word[MOST_LINES];
        private final int[] units = new int[MOST_LINES];
        private final int[] ticks = new int[MOST_LINES];
        private int many;

        private Book() {
            for (int i = 0; i < words.length; i++) {
                words[i] = Word.OTHER;
            }
        }

        private boolean readLines(Tape in) {
            many = 0;
            for (int line = 0; line <= MOST_LINES; line++) {
                if (in.kind == Tape.END) {
                    many = line;
                    return true;
                }
                if (!readLine(in, line) || !in.stepOverEnd()) {
                    return false;
                }
            }
            return false;
        }

        private boolean readLine(Tape in, int line) {
            Word word = in.word;
            if (!takesUnit(word) && !takesTicks(word) && word != Word.PROMPT && word != Word.CRASH) {
                return in.fail(CANNOT_COME);
            }
            if (line < 0 || line >= MOST_LINES) {
                return in.fail(TOO_MANY);
            }
            words[line] = word;
            if (takesUnit(word)) {
                if (!in.stepToNumber(0, HIGHEST_UNIT)) {
                    return false;
                }
                units[line] = in.number;
            }
            if (takesTicks(word)) {
                if (!in.stepToNumber(1, MOST_TICKS)) {
                    return false;
                }
                ticks[line] = in.number;
            }
            return true;
        }

        private static boolean takesUnit(Word word) {
            return word == Word.LOSE || word == Word.TWICE || word == Word.LATE || word == Word.SPOIL;
        }

        private static boolean takesTicks(Word word) {
            return word == Word.LATE || word == Word.TICK;
        }
    }

    /** A SENTENCE, each ONE behind those that it joins, so that saying it needs no recursion. */
    private static final class Sentence {
        private static final int MOST_ONES = 20;
        private static final int MOST_WITHIN = 8;
        private static final int MOST_STEPS = 2 * MOST_ONES;

        private final Word[] words = new Word[MOST_STEPS];
        private final int[] signs = new int[MOST_STEPS];
        private final int[] numbers = new int[MOST_STEPS];
        private int steps;
        private int ones;

        private Sentence() {
            for (int i = 0; i < words.length; i++) {
                words[i] = Word.OTHER;
            }
        }

        /** 'within' is how many ONES one of this COND is within, itself counted. */
        private boolean readCond(Tape in, int within) {
            if (!readAll(in, within)) {
                return false;
            }
            for (int i = 0; i < MOST_ONES && in.word == Word.OR; i++) {
                in.step();
                if (!readAll(in, within)) {
                    return false;
                }
                add(Word.OR, 0, 0);
            }
            return true;
        }

        private boolean readAll(Tape in, int within) {
            if (!readOne(in, within)) {
                return false;
            }
            for (int i = 0; i < MOST_ONES && in.word == Word.AND; i++) {
                in.step();
                if (!readOne(in, within)) {
                    return false;
                }
                add(Word.AND, 0, 0);
            }
            return true;
        }

        private boolean readOne(Tape in, int within) {
            Word word = in.word;
            boolean bracket = in.kind == '(';
            if (!bracket && word != Word.NOT && !isSaid(word) && !isMeasure(word)) {
                return in.fail(CANNOT_COME);
            }
            if (ones >= MOST_ONES || within > MOST_WITHIN) {
                return in.fail(TOO_MANY);
            }
            ones++;
            if (isMeasure(word)) {
                return readMeasure(in, word);
            }
            in.step();
            if (bracket) {
                return readCond(in, within + 1) && readClose(in);
            }
            if (word == Word.NOT && !readOne(in, within + 1)) {
                return false;
            }
            add(word, 0, 0);
            return true;
        }

        private static boolean isSaid(Word word) {
            switch (word) {
                case DATA: case EOF: case NAK: case ACK: case FIN: case OUT: case SPOILT: return true;
                default: return false;
            }
        }

        private static boolean isMeasure(Word word) {
            switch (word) {
                case FROM: case MANY: case TICKS: case NUMBER: return true;
                default: return false;
            }
        }

        private boolean readClose(Tape in) {
            if (in.kind != ')') {
                return in.fail(CANNOT_COME);
            }
            in.step();
            return true;
        }

        private boolean readMeasure(Tape in, Word word) {
            in.step();
            int sign = in.kind;
            if (!Tape.isCompare(sign)) {
                return in.fail(CANNOT_COME);
            }
            in.step();
            if (in.kind != Tape.NUMBER) {
                return in.fail(CANNOT_COME);
            }
            add(word, sign, in.number);
            in.step();
            return true;
        }

        private void add(Word word, int sign, int number) {
            if (steps < MOST_STEPS) {
                words[steps] = word;
                signs[steps] = sign;
                numbers[steps] = number;
                steps++;
            }
        }

        /** The answers that wait are bits, the youngest the lowest: there are at most 20. */
        private boolean holds(Link link, int unit, int tick) {
            int answers = 0;
            for (int i = 0; i < steps && i < MOST_STEPS; i++) {
                int last = answers & 1;
                switch (words[i]) {
                    case NOT: answers ^= 1; break;
                    case OR: answers = answers >>> 1 | last; break;
                    case AND: answers = last == 1 ? answers >>> 1 : answers >>> 1 & ~1; break;
                    default: answers = answers << 1 | (isSo(i, link, unit, tick) ? 1 : 0); break;
                }
            }
            return (answers & 1) == 1;
        }

        private boolean isSo(int i, Link link, int unit, int tick) {
            int kind = link.get(unit, Link.KIND);
            switch (words[i]) {
                case DATA: return kind == Link.DATA;
                case EOF: return kind == Link.EOF;
                case NAK: return kind == Link.NAK;
                case ACK: return kind == Link.ACK_OF_EOF || kind == Link.ACK_OF_FIN;
                case FIN: return kind == Link.FIN;
                case OUT: return Link.goesOut(kind);
                case SPOILT: return link.get(unit, Link.SPOILT) == 1;
                case FROM: return compares(i, kind == Link.DATA ? link.get(unit, Link.FROM) : 0);
                case MANY: return compares(i, kind == Link.DATA ? link.get(unit, Link.MANY) : 0);
                case TICKS: return compares(i, link.get(unit, Link.DUE) - tick);
                default: return compares(i, unit);
            }
        }

        private boolean compares(int i, int measured) {
            switch (signs[i]) {
                case '<': return measured < numbers[i];
                case '=': return measured == numbers[i];
                default: return measured > numbers[i];
            }
        }
    }

    /** A set of places of the FILE; SPANS are its runs, so that those who touch are one. */
    private static final class Places {
        private final byte[] marks = new byte[FILE_BYTES];
        private int marked;

        private void copyFrom(Places other) {
            if (marked != 0 || other.marked != 0) {
                System.arraycopy(other.marks, 0, marks, 0, FILE_BYTES);
            }
            marked = other.marked;
        }

        private void clear() {
            Arrays.fill(marks, (byte) 0);
            marked = 0;
        }

        private boolean has(int i) {
            return i >= 0 && i < FILE_BYTES && marks[i] == 1;
        }

        private void mark(int from, int to) {
            for (int i = Math.max(from, 0); i < to && i < FILE_BYTES; i++) {
                marked += 1 - marks[i];
                marks[i] = 1;
            }
        }

        /** Whether one of them was there. */
        private boolean unmark(int from, int to) {
            int before = marked;
            for (int i = Math.max(from, 0); i < to && i < FILE_BYTES; i++) {
                marked -= marks[i];
                marks[i] = 0;
            }
            return marked < before;
        }

        /** The first place from i on that is there; FILE_BYTES without one. */
        private int nextFrom(int i) {
            int place = marked == 0 ? FILE_BYTES : i < 0 ? 0 : i;
            while (place < FILE_BYTES && marks[place] == 0) {
                place++;
            }
            return place;
        }

        private int endOf(int i) {
            int place = i < 0 ? 0 : i;
            while (place < FILE_BYTES && marks[place] == 1) {
                place++;
            }
            return place;
        }

        private boolean startsSpan(int i) {
            return has(i) && !has(i - 1);
        }

        private int countSpans() {
            int spans = 0;
            for (int i = 0; i < FILE_BYTES; i++) {
                if (startsSpan(i)) {
                    spans++;
                }
            }
            return spans;
        }

        /** Of SPAN k 0 from, 1 to; NONE if there is no such one. */
        private int edge(int k, int what) {
            if (k < 0 || what < 0 || what > 1) {
                return NONE;
            }
            int ahead = 0;
            for (int i = 0; i < FILE_BYTES; i++) {
                if (!startsSpan(i)) {
                    continue;
                }
                if (ahead == k) {
                    return what == 0 ? i : endOf(i);
                }
                ahead++;
            }
            return NONE;
        }
    }

    /** The UNITS under way, a row of numbers each, as they were SENT. */
    private static final class Link {
        private static final int DATA = 0;
        private static final int EOF = 1;
        private static final int NAK = 2;
        private static final int ACK_OF_EOF = 3;
        private static final int FIN = 4;
        private static final int ACK_OF_FIN = 5;
        private static final int PROMPT = 6;

        private static final int KIND = 0;
        private static final int DUE = 1;
        private static final int FROM = 2;
        private static final int MANY = 3;
        private static final int SPOILT = 4;
        private static final int SPANS = 5;
        private static final int MOST_SPANS = 8;
        private static final int WIDTH = SPANS + MOST_SPANS;
        private static final int MOST = 40;

        private final int[] rows = new int[MOST * WIDTH];
        private final int[] coming = new int[WIDTH];
        private int size;
        private int sent;
        private int due;

        private void clear() {
            size = 0;
            sent = 0;
        }

        private void copyFrom(Link other) {
            System.arraycopy(other.rows, 0, rows, 0, other.size * WIDTH);
            size = other.size;
            sent = other.sent;
        }

        private static boolean goesOut(int kind) {
            return kind == DATA || kind == EOF || kind == ACK_OF_FIN || kind == PROMPT;
        }

        private static int spanFrom(int packed) {
            return packed >> 8;
        }

        private static int spanTo(int packed) {
            return packed & 255;
        }

        private boolean has(int k) {
            return k >= 0 && k < size;
        }

        private int get(int k, int field) {
            return has(k) && field >= 0 && field < WIDTH ? rows[k * WIDTH + field] : 0;
        }

        private void send(int kind, int from, int many) {
            sent++;
            if (size >= MOST) {
                return;
            }
            int row = size * WIDTH;
            rows[row + KIND] = kind;
            rows[row + DUE] = due;
            rows[row + FROM] = from;
            rows[row + MANY] = many;
            rows[row + SPOILT] = 0;
            size++;
        }

        /** A NAK of the SPANS that lie in places from one to ahead of another one. */
        private void sendNak(Places lacks, int from, int to) {
            int spans = 0;
            int start = lacks.nextFrom(from);
            while (size < MOST && spans < MOST_SPANS && start < to) {
                int behind = Math.min(lacks.endOf(start), to);
                rows[size * WIDTH + SPANS + spans] = start << 8 | behind;
                spans++;
                start = lacks.nextFrom(behind);
            }
            send(NAK, spans, 0);
        }

        /** UNIT k is 'coming' then, and not under way any more. */
        private void take(int k) {
            if (has(k)) {
                System.arraycopy(rows, k * WIDTH, coming, 0, WIDTH);
                remove(k);
            }
        }

        private int remove(int k) {
            if (!has(k)) {
                return NONE;
            }
            int behind = size - k - 1;
            System.arraycopy(rows, (k + 1) * WIDTH, rows, k * WIDTH, behind * WIDTH);
            size--;
            return 0;
        }

        private int repeat(int k) {
            if (!has(k)) {
                return NONE;
            }
            if (size >= MOST) {
                return 1;
            }
            System.arraycopy(rows, k * WIDTH, rows, size * WIDTH, WIDTH);
            size++;
            return 0;
        }

        private int delay(int k, int ticks) {
            if (!has(k)) {
                return NONE;
            }
            rows[k * WIDTH + DUE] += ticks;
            return 0;
        }

        /** That the first byte is another one is told by a mark: the FILE has the bytes. */
        private int flip(int k) {
            if (!has(k)) {
                return NONE;
            }
            if (get(k, KIND) != DATA) {
                return 1;
            }
            if (get(k, SPOILT) == 1) {
                return 2;
            }
            rows[k * WIDTH + SPOILT] = 1;
            return 0;
        }
    }

    /** The end that has the FILE. */
    private static final class Sender {
        private static final int IDLE = 0;
        private static final int SENDING = 1;
        private static final int WAITING = 2;
        private static final int AWAITING = 3;
        private static final int DONE = 4;
        private static final int FAILED = 5;
        private static final int PATIENCE_WAITS = 6;

        private final Places resends = new Places();
        private int state;
        private int next;
        private int eofs;
        private int wait;
        private int patience;

        private void clear() {
            resends.clear();
            state = IDLE;
            next = 0;
            eofs = 0;
            wait = 0;
            patience = 0;
        }

        private void copyFrom(Sender other) {
            resends.copyFrom(other.resends);
            state = other.state;
            next = other.next;
            eofs = other.eofs;
            wait = other.wait;
            patience = other.patience;
        }

        private boolean isActive() {
            return state == SENDING || state == WAITING || state == AWAITING;
        }

        private boolean isOver() {
            return state == DONE || state == FAILED;
        }

        /** What the link has 'coming' comes here. */
        private void meet(World w) {
            patience = PATIENCE_WAITS * w.order.settings[Order.WAIT];
            switch (w.link.coming[Link.KIND]) {
                case Link.NAK: meetNak(w.link); break;
                case Link.ACK_OF_EOF:
                    if (state == WAITING) {
                        state = AWAITING;
                    }
                    break;
                case Link.FIN: meetFin(w.link); break;
                default: break;
            }
        }

        private void meetNak(Link link) {
            if (!isActive()) {
                return;
            }
            int spans = Math.min(link.coming[Link.FROM], Link.MOST_SPANS);
            for (int i = 0; i < spans; i++) {
                int packed = link.coming[Link.SPANS + i];
                resends.mark(Link.spanFrom(packed), Link.spanTo(packed));
            }
        }

        private void meetFin(Link link) {
            if (isActive()) {
                state = link.coming[Link.FROM] == 0 ? DONE : FAILED;
            }
            link.send(Link.ACK_OF_FIN, 0, 0);
        }

        private void act(World w) {
            if (!isActive()) {
                return;
            }
            boolean waited = state == WAITING;
            if (resends.marked > 0) {
                sendAgain(w);
            } else if (state == SENDING) {
                sendNext(w);
            }
            if (waited) {
                waitForAck(w);
            } else if (state == AWAITING) {
                patience--;
                if (patience <= 0) {
                    state = FAILED;
                }
            }
        }

        private void sendAgain(World w) {
            int from = resends.nextFrom(0);
            int to = Math.min(resends.endOf(from), from + w.order.settings[Order.CHUNK]);
            w.link.send(Link.DATA, from, to - from);
            resends.unmark(from, to);
        }

        private void sendNext(World w) {
            int left = w.file.length - next;
            if (left > 0) {
                int many = Math.min(left, w.order.settings[Order.CHUNK]);
                w.link.send(Link.DATA, next, many);
                next += many;
                return;
            }
            eofs = 0;
            sendEof(w);
            state = WAITING;
        }

        private void sendEof(World w) {
            w.link.send(Link.EOF, w.file.length, 0);
            eofs++;
            wait = w.order.settings[Order.WAIT];
        }

        private void waitForAck(World w) {
            wait--;
            if (wait > 0) {
                return;
            }
            if (eofs >= w.order.settings[Order.TRIES]) {
                state = FAILED;
            } else {
                sendEof(w);
            }
        }
    }

    /** The end that takes the FILE; STORE and JOURNAL are on the shelf, as a CRASH leaves them. */
    private static final class Taker {
        private static final int IDLE = 0;
        private static final int TAKING = 1;
        private static final int ACTING = 2;
        private static final int FINISHING = 3;
        private static final int DONE = 4;
        private static final int FAILED = 5;
        private static final int CODE_SUM = 1;
        private static final int CODE_GAPS = 2;

        private final Places gaps = new Places();
        private final byte[] bytes = new byte[FILE_BYTES];
        private int state;
        private int end;
        private boolean knows;
        private int naks;
        private int fins;
        private int wait;
        private int code = NONE;

        private void clear() {
            gaps.clear();
            state = IDLE;
            end = 0;
            knows = false;
            naks = 0;
            fins = 0;
            wait = 0;
            code = NONE;
        }

        private void copyFrom(Taker other) {
            gaps.copyFrom(other.gaps);
            System.arraycopy(other.bytes, 0, bytes, 0, FILE_BYTES);
            state = other.state;
            end = other.end;
            knows = other.knows;
            naks = other.naks;
            fins = other.fins;
            wait = other.wait;
            code = other.code;
        }

        private boolean isOver() {
            return state == DONE || state == FAILED;
        }

        private boolean hasByte(int i) {
            return i >= 0 && i < end && i < FILE_BYTES && !gaps.has(i);
        }

        private int byteAt(int i) {
            return hasByte(i) ? bytes[i] & 255 : NONE;
        }

        private int sumOfBytes() {
            int sum = 0;
            for (int i = 0; i < end; i++) {
                if (hasByte(i)) {
                    sum += weigh(bytes[i], i);
                }
            }
            return sum;
        }

        /** What a byte adds to a SUM. */
        private static int weigh(int value, int place) {
            return (value & 255) << 8 * (3 - (place & 3));
        }

        /** What the link has 'coming' comes here. */
        private void meet(World w) {
            switch (w.link.coming[Link.KIND]) {
                case Link.DATA: meetData(w); break;
                case Link.EOF: meetEof(w); break;
                case Link.PROMPT:
                    if (state == TAKING) {
                        w.link.sendNak(gaps, 0, FILE_BYTES);
                    }
                    break;
                case Link.ACK_OF_FIN:
                    if (state == FINISHING) {
                        state = code == 0 ? DONE : FAILED;
                    }
                    break;
                default: break;
            }
        }

        private void meetData(World w) {
            if (state != IDLE && state != TAKING) {
                return;
            }
            state = TAKING;
            int from = w.link.coming[Link.FROM];
            int to = from + w.link.coming[Link.MANY];
            if (from > end) {
                gaps.mark(end, from);
                if (w.order.settings[Order.POLICY] == Order.POLICY_NOW) {
                    w.link.sendNak(gaps, end, from);
                }
            }
            end = Math.max(end, to);
            copyBytes(w, from, to);
            if (gaps.unmark(from, to)) {
                naks = 0;
                wait = w.order.settings[Order.WAIT];
            }
        }

        private void copyBytes(World w, int from, int to) {
            if (from < 0 || from >= to || to > w.file.length || to > FILE_BYTES) {
                return;
            }
            System.arraycopy(w.file, from, bytes, from, to - from);
            if (w.link.coming[Link.SPOILT] == 1) {
                bytes[from] = (byte) ~bytes[from];
            }
        }

        private void meetEof(World w) {
            if ((state == IDLE || state == TAKING) && !knows) {
                state = TAKING;
                knows = true;
                gaps.mark(end, w.link.coming[Link.FROM]);
                end = Math.max(end, w.link.coming[Link.FROM]);
                if (gaps.marked > 0 && w.order.settings[Order.POLICY] != Order.POLICY_ASKED) {
                    naks = 0;
                    sendNakOfAll(w);
                }
            }
            w.link.send(Link.ACK_OF_EOF, 0, 0);
        }

        private void sendNakOfAll(World w) {
            w.link.sendNak(gaps, 0, FILE_BYTES);
            naks++;
            wait = w.order.settings[Order.WAIT];
        }

        private void act(World w) {
            switch (state) {
                case TAKING:
                    if (knows) {
                        actTaking(w);
                    }
                    break;
                case ACTING:
                    if (!w.shelf.goOn(w.order)) {
                        finish(w, 0);
                    }
                    break;
                case FINISHING: actFinishing(w); break;
                default: break;
            }
        }

        private void actTaking(World w) {
            if (gaps.marked == 0) {
                if (sumOfBytes() == w.fileSum) {
                    state = ACTING;
                } else {
                    finish(w, CODE_SUM);
                }
                return;
            }
            if (w.order.settings[Order.POLICY] == Order.POLICY_ASKED) {
                return;
            }
            wait--;
            if (wait > 0) {
                return;
            }
            if (naks >= w.order.settings[Order.TRIES]) {
                finish(w, CODE_GAPS);
            } else {
                sendNakOfAll(w);
            }
        }

        private void finish(World w, int why) {
            code = why;
            state = FINISHING;
            fins = 0;
            sendFin(w);
        }

        private void sendFin(World w) {
            w.link.send(Link.FIN, code, 0);
            fins++;
            wait = w.order.settings[Order.WAIT];
        }

        private void actFinishing(World w) {
            wait--;
            if (wait > 0) {
                return;
            }
            if (fins >= w.order.settings[Order.TRIES]) {
                state = FAILED;
            } else {
                sendFin(w);
            }
        }
    }

    /** STORE and JOURNAL: what a CRASH of the TAKER does not touch. */
    private static final class Shelf {
        private static final int WENT_WELL = 0;
        private static final int COULD_NOT_BE = 1;
        private static final int NOT_TRIED = 2;

        private final int[] journal = new int[Order.MOST_ACTS];
        private int written;
        private int store;
        private boolean toIsDone;
        private boolean broken;

        private void clear(int has) {
            written = 0;
            store = has;
            toIsDone = false;
            broken = false;
        }

        private void copyFrom(Shelf other) {
            System.arraycopy(other.journal, 0, journal, 0, journal.length);
            written = other.written;
            store = other.store;
            toIsDone = other.toIsDone;
            broken = other.broken;
        }

        private int entry(int k) {
            return k < 0 || k >= written || k >= journal.length ? NONE : journal[k];
        }

        /** One step of ACTING; false, if there was none left. */
        private boolean goOn(Order order) {
            if (!toIsDone) {
                toIsDone = true;
                if (order.to != NONE) {
                    store |= 1 << order.to;
                    return true;
                }
            }
            if (written >= order.acts || written >= journal.length) {
                return false;
            }
            int how = NOT_TRIED;
            if (!broken) {
                how = tryAct(order, written) ? WENT_WELL : COULD_NOT_BE;
            }
            journal[written] = how;
            written++;
            broken = how != WENT_WELL;
            return true;
        }

        private boolean tryAct(Order order, int act) {
            if (act < 0 || act >= Order.MOST_ACTS) {
                return false;
            }
            int first = 1 << order.actFirsts[act];
            int second = 1 << order.actSeconds[act];
            boolean hasFirst = (store & first) != 0;
            boolean hasSecond = (store & second) != 0;
            switch (order.actKinds[act]) {
                case MAKE:
                    store |= first;
                    return !hasFirst;
                case DROP:
                    store &= ~first;
                    return hasFirst;
                default:
                    if (!hasFirst || hasSecond) {
                        return false;
                    }
                    store |= second;
                    if (order.actKinds[act] == Word.MOVE) {
                        store &= ~first;
                    }
                    return true;
            }
        }
    }

    /** Both ends, what is between them, and the ORDER and SENTENCE: all that an image keeps. */
    private static final class World {
        private static final byte[] NO_FILE = {};
        private static final int NO_SUCH_UNIT = 9;
        private static final int WHY_TWICE = 10;
        private static final int WHY_SPOIL = 20;
        private static final int WHY_PROMPT = 30;
        private static final int WHY_CRASH = 40;
        private static final int FEWER_TICKS = 51;

        private final Link link = new Link();
        private final Sender sender = new Sender();
        private final Taker taker = new Taker();
        private final Taker saved = new Taker();
        private final Shelf shelf = new Shelf();
        private Order order = new Order();
        private Sentence sentence;
        private byte[] file = NO_FILE;
        private int fileSum;
        private int tick;
        private int seed;

        private void copyFrom(World other) {
            link.copyFrom(other.link);
            sender.copyFrom(other.sender);
            taker.copyFrom(other.taker);
            saved.copyFrom(other.saved);
            shelf.copyFrom(other.shelf);
            order = other.order;
            sentence = other.sentence;
            file = other.file;
            fileSum = other.fileSum;
            tick = other.tick;
        }

        private void begin(Order made) {
            order = made;
            sentence = null;
            restart(NO_FILE);
        }

        private void load(byte[] bytes) {
            restart(bytes);
            sender.state = Sender.SENDING;
        }

        private void restart(byte[] bytes) {
            link.clear();
            sender.clear();
            taker.clear();
            saved.clear();
            shelf.clear(order.has);
            tick = 0;
            file = bytes;
            fileSum = 0;
            for (int i = 0; i < bytes.length; i++) {
                fileSum += Taker.weigh(bytes[i], i);
            }
        }

        private int passTicks(int n) {
            int passed = 0;
            while (passed < n && tick < TICKS_IN_ALL) {
                passTick();
                passed++;
            }
            return passed;
        }

        private void passTick() {
            link.due = tick + order.settings[Order.DELAY];
            int k = 0;
            // What is SENT meanwhile comes in a later TICK: only those that were there can come.
            for (int left = link.size; left > 0; left--) {
                if (link.get(k, Link.DUE) != tick) {
                    k++;
                    continue;
                }
                link.take(k);
                if (Link.goesOut(link.coming[Link.KIND])) {
                    taker.meet(this);
                } else {
                    sender.meet(this);
                }
            }
            sender.act(this);
            taker.act(this);
            tick++;
            int save = order.settings[Order.SAVE];
            if (save > 0 && tick % save == 0) {
                saved.copyFrom(taker);
            }
        }

        /** What a DRAWN TICK has ahead of the TICK itself. */
        private void drawWhatHappens() {
            int what = draw(12);
            if (what == 4) {
                if (draw(8) == 0) {
                    crashTaker();
                }
                return;
            }
            if (what > 4 || link.size == 0) {
                return;
            }
            int unit = draw(link.size);
            switch (what) {
                case 2: link.repeat(unit); break;
                case 3: link.delay(unit, draw(20) + 1); break;
                default: link.remove(unit); break;
            }
        }

        private int draw(int n) {
            seed = seed * 1103515245 + 12345;
            return n < 1 ? 0 : (seed >>> 8) % n;
        }

        private int sendPrompt() {
            if (!sender.isActive()) {
                return 1;
            }
            link.due = tick + order.settings[Order.DELAY];
            link.send(Link.PROMPT, 0, 0);
            return 0;
        }

        private int crashTaker() {
            if (taker.state == Taker.IDLE || taker.isOver()) {
                return 1;
            }
            taker.copyFrom(saved);
            return 0;
        }

        private int countNeed() {
            int many = 0;
            int room = 0;
            for (int i = 0; i < file.length; i++) {
                if (taker.hasByte(i)) {
                    room = 0;
                    continue;
                }
                if (room == 0) {
                    many++;
                    room = order.settings[Order.CHUNK];
                }
                room--;
            }
            return many;
        }

        private boolean bothOver() {
            return sender.isOver() && taker.isOver();
        }

        private boolean bothDone() {
            return sender.state == Sender.DONE && taker.state == Taker.DONE;
        }

        private boolean oneFailed() {
            return sender.state == Sender.FAILED || taker.state == Taker.FAILED;
        }

        private int passUntilOver() {
            for (int passed = 0; passed <= OVER_TICKS; passed++) {
                if (bothOver()) {
                    return passed;
                }
                if (isStill()) {
                    return NONE;
                }
                passTick();
            }
            return NONE;
        }

        /** No TICK can change an end any more: nothing comes, and neither has a WAIT that runs. */
        private boolean isStill() {
            if (link.size > 0 || sender.isActive()) {
                return false;
            }
            if (taker.state == Taker.IDLE) {
                return true;
            }
            boolean waits = order.settings[Order.POLICY] != Order.POLICY_ASKED || taker.gaps.marked == 0;
            return taker.state == Taker.TAKING && !(taker.knows && waits);
        }

        /** Does a LINE of a BOOK: 0, or why it is WRONG. */
        private int live(Book book, int line) {
            if (line < 0 || line >= Book.MOST_LINES) {
                return 0;
            }
            int unit = book.units[line];
            int n = book.ticks[line];
            switch (book.words[line]) {
                case LOSE: return whyWrong(link.remove(unit), 0);
                case TWICE: return whyWrong(link.repeat(unit), WHY_TWICE);
                case LATE: return whyWrong(link.delay(unit, n), 0);
                case SPOIL: return whyWrong(link.flip(unit), WHY_SPOIL);
                case PROMPT: return whyWrong(sendPrompt(), WHY_PROMPT);
                case CRASH: return whyWrong(crashTaker(), WHY_CRASH);
                case TICK:
                    if (tick + n > TICKS_IN_ALL) {
                        return FEWER_TICKS;
                    }
                    for (int i = 0; i < n; i++) {
                        passTick();
                    }
                    return 0;
                default: return 0;
            }
        }

        private static int whyWrong(int answer, int why) {
            if (answer == NONE) {
                return NO_SUCH_UNIT;
            }
            return answer == 0 ? 0 : why + answer;
        }
    }
}
