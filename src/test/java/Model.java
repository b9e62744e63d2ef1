import java.util.ArrayList;
import java.util.Arrays;
import java.util.HashMap;
import java.util.HashSet;
import java.util.List;
import java.util.Map;
import java.util.NoSuchElementException;
import java.util.Set;
import java.util.TreeSet;

/**
 * The document once more, written for plainness alone: units are objects with bytes of their own,
 * spans are pairs that are merged and trimmed, texts are cut into tokens first. The fuzz test holds
 * SpanCopier against it.
 */
final class Model {
    static final Set<String> KEYS = new HashSet<>(Arrays.asList((
            "chunk policy now end asked delay wait tries save to has act make drop move copy "
            + "lose twice late spoil prompt crash tick "
            + "or and not data eof nak ack fin out spoilt from many ticks number").split(" ")));

    // ---- texts

    static final class Fault extends Exception {
        private static final long serialVersionUID = 1L;
        final int kind;
        final int place;

        Fault(int kind, int place) {
            this.kind = kind;
            this.place = place;
        }
    }

    static final class Token {
        String text;
        int place;
        boolean good;
    }

    static List<Token> cut(String text, int most) {
        List<Token> all = new ArrayList<>();
        int i = 0;
        while (i < text.length()) {
            char c = text.charAt(i);
            if (c == ' ' || c == '\n') {
                i++;
                continue;
            }
            int j = i + 1;
            String alnum = "[a-z0-9]";
            if (String.valueOf(c).matches(alnum)) {
                while (j < text.length() && String.valueOf(text.charAt(j)).matches(alnum)) {
                    j++;
                }
            }
            Token t = new Token();
            t.text = text.substring(i, j);
            t.place = i;
            t.good = t.text.matches("[a-z]{1,7}|[0-9]{1,3}|[;<=>()]");
            if (i >= most) {
                break;
            }
            all.add(t);
            i = j;
        }
        Token end = new Token();
        end.text = "";
        end.place = Math.min(text.length(), most);
        end.good = text.length() <= most;
        all.add(end);
        return all;
    }

    static final class Reader {
        final List<Token> tokens;
        int at;

        Reader(String text, int most) {
            tokens = cut(text, most);
        }

        Token peek() {
            return tokens.get(at);
        }

        boolean atEnd() {
            return peek().text.isEmpty() && peek().good;
        }

        boolean is(String text) {
            return peek().good && peek().text.equals(text);
        }

        Token take() {
            return tokens.get(at++);
        }

        void want(String... texts) throws Fault {
            for (String t : texts) {
                if (is(t)) {
                    return;
                }
            }
            throw new Fault(1, peek().place);
        }

        int number(int least, int most) throws Fault {
            if (!peek().good || !peek().text.matches("[0-9]+")) {
                throw new Fault(1, peek().place);
            }
            int n = Integer.parseInt(peek().text);
            if (n < least || n > most) {
                throw new Fault(2, peek().place);
            }
            at++;
            return n;
        }
    }

    static final class Order {
        final Map<String, Integer> set = new HashMap<>();
        final List<String> names = new ArrayList<>();
        final Set<Integer> has = new TreeSet<>();
        final List<int[]> acts = new ArrayList<>();
        int to = -1;
        int lines;

        Order() {
            set.put("chunk", 8);
            set.put("policy", 1);
            set.put("delay", 2);
            set.put("wait", 12);
            set.put("tries", 3);
            set.put("save", 1);
        }

        int get(String what) {
            return set.get(what);
        }

        int name(Reader r) throws Fault {
            Token t = r.peek();
            if (!t.good || !t.text.matches("[a-z]+") || KEYS.contains(t.text)) {
                throw new Fault(1, t.place);
            }
            if (!names.contains(t.text)) {
                if (names.size() == 10) {
                    throw new Fault(4, t.place);
                }
                names.add(t.text);
            }
            r.at++;
            return names.indexOf(t.text);
        }

        static Order read(String text) throws Fault {
            Order o = new Order();
            Reader r = new Reader(text, 900);
            Set<String> told = new HashSet<>();
            Map<String, Integer> most = new HashMap<>();
            most.put("chunk", 32);
            most.put("delay", 9);
            most.put("wait", 60);
            most.put("tries", 9);
            most.put("save", 60);
            while (!r.atEnd()) {
                r.want("chunk", "policy", "delay", "wait", "tries", "save", "to", "has", "act");
                Token w = r.take();
                if (!w.text.equals("has") && !w.text.equals("act") && !told.add(w.text)) {
                    throw new Fault(3, w.place);
                }
                if (most.containsKey(w.text)) {
                    o.set.put(w.text, r.number(1, most.get(w.text)));
                } else if (w.text.equals("policy")) {
                    r.want("now", "end", "asked");
                    o.set.put("policy", Arrays.asList("now", "end", "asked").indexOf(r.take().text));
                } else if (w.text.equals("to")) {
                    o.to = o.name(r);
                } else if (w.text.equals("has")) {
                    int place = r.peek().place;
                    if (!o.has.add(o.name(r))) {
                        throw new Fault(3, place);
                    }
                } else {
                    o.readAct(r, w);
                }
                r.want(";");
                r.at++;
                o.lines++;
            }
            return o;
        }

        void readAct(Reader r, Token w) throws Fault {
            if (acts.size() == 6) {
                throw new Fault(4, w.place);
            }
            r.want("make", "drop", "move", "copy");
            int kind = Arrays.asList("make", "drop", "move", "copy").indexOf(r.take().text);
            int a = name(r);
            int b = a;
            if (kind >= 2) {
                int place = r.peek().place;
                b = name(r);
                if (a == b) {
                    throw new Fault(3, place);
                }
            }
            acts.add(new int[] {kind, a, b});
        }
    }

    static List<Object[]> readBook(String text) throws Fault {
        List<Object[]> lines = new ArrayList<>();
        Reader r = new Reader(text, 400);
        while (!r.atEnd()) {
            r.want("lose", "twice", "late", "spoil", "prompt", "crash", "tick");
            if (lines.size() == 40) {
                throw new Fault(4, r.peek().place);
            }
            String w = r.take().text;
            int k = 0;
            int n = 0;
            if (Arrays.asList("lose", "twice", "late", "spoil").contains(w)) {
                k = r.number(0, 39);
            }
            if (Arrays.asList("late", "tick").contains(w)) {
                n = r.number(1, 60);
            }
            r.want(";");
            r.at++;
            lines.add(new Object[] {w, k, n});
        }
        return lines;
    }

    /** A tree: 'or', 'and' and 'not' have parts, a measure has a sign and a number. */
    static final class Node {
        String what;
        char sign;
        int number;
        final List<Node> parts = new ArrayList<>();

        boolean says(World w, int k) {
            Unit u = w.units.get(k);
            switch (what) {
                case "or": return parts.stream().anyMatch(p -> p.says(w, k));
                case "and": return parts.stream().allMatch(p -> p.says(w, k));
                case "not": return !parts.get(0).says(w, k);
                case "data": return u.kind == 0;
                case "eof": return u.kind == 1;
                case "nak": return u.kind == 2;
                case "ack": return u.kind == 3 || u.kind == 5;
                case "fin": return u.kind == 4;
                case "out": return Arrays.asList(0, 1, 5, 6).contains(u.kind);
                case "spoilt": return u.spoilt;
                case "from": return compare(u.kind == 0 ? u.from : 0);
                case "many": return compare(u.kind == 0 ? u.bytes.length : 0);
                case "ticks": return compare(u.due - w.tick);
                default: return compare(k);
            }
        }

        boolean compare(int v) {
            return sign == '<' ? v < number : sign == '=' ? v == number : v > number;
        }
    }

    static final class SentenceReader {
        final Reader r;
        int ones;

        SentenceReader(String text) {
            r = new Reader(text, 200);
        }

        Node whole() throws Fault {
            Node n = cond(0);
            if (!r.atEnd()) {
                throw new Fault(1, r.peek().place);
            }
            return n;
        }

        Node cond(int outer) throws Fault {
            Node n = new Node();
            n.what = "or";
            n.parts.add(all(outer));
            while (r.is("or")) {
                r.at++;
                n.parts.add(all(outer));
            }
            return n;
        }

        Node all(int outer) throws Fault {
            Node n = new Node();
            n.what = "and";
            n.parts.add(one(outer));
            while (r.is("and")) {
                r.at++;
                n.parts.add(one(outer));
            }
            return n;
        }

        Node one(int outer) throws Fault {
            r.want("not", "(", "data", "eof", "nak", "ack", "fin", "out", "spoilt",
                    "from", "many", "ticks", "number");
            if (ones == 20 || outer == 8) {
                throw new Fault(4, r.peek().place);
            }
            ones++;
            Node n = new Node();
            n.what = r.take().text;
            if (n.what.equals("(")) {
                Node inner = cond(outer + 1);
                r.want(")");
                r.at++;
                return inner;
            }
            if (n.what.equals("not")) {
                n.parts.add(one(outer + 1));
            } else if (Arrays.asList("from", "many", "ticks", "number").contains(n.what)) {
                r.want("<", "=", ">");
                n.sign = r.take().text.charAt(0);
                n.number = r.number(0, 999);
            }
            return n;
        }
    }

    // ---- spans, as pairs

    static List<int[]> copy(List<int[]> spans) {
        List<int[]> all = new ArrayList<>();
        for (int[] s : spans) {
            all.add(s.clone());
        }
        return all;
    }

    static List<int[]> plus(List<int[]> spans, int from, int to) {
        if (from >= to) {
            return spans;
        }
        List<int[]> all = new ArrayList<>();
        int a = from;
        int b = to;
        for (int[] s : spans) {
            if (s[1] < a || s[0] > b) {
                all.add(s);
            } else {
                a = Math.min(a, s[0]);
                b = Math.max(b, s[1]);
            }
        }
        all.add(new int[] {a, b});
        all.sort((x, y) -> Integer.compare(x[0], y[0]));
        return all;
    }

    static List<int[]> minus(List<int[]> spans, int from, int to) {
        List<int[]> all = new ArrayList<>();
        for (int[] s : spans) {
            if (s[0] < Math.min(s[1], from)) {
                all.add(new int[] {s[0], Math.min(s[1], from)});
            }
            if (Math.max(s[0], to) < s[1]) {
                all.add(new int[] {Math.max(s[0], to), s[1]});
            }
        }
        return all;
    }

    static int size(List<int[]> spans) {
        int n = 0;
        for (int[] s : spans) {
            n += s[1] - s[0];
        }
        return n;
    }

    static int sumOf(int[] bytes) {
        int sum = 0;
        for (int i = 0; i < bytes.length; i++) {
            if (bytes[i] >= 0) {
                int up = 1;
                for (int j = 0; j < 3 - i % 4; j++) {
                    up *= 256;
                }
                sum += bytes[i] * up;
            }
        }
        return sum;
    }

    // ---- the world

    static final class Unit implements Cloneable {
        int kind;
        int due;
        int from;
        int[] bytes = {};
        int sum;
        int code;
        List<int[]> spans = new ArrayList<>();
        boolean spoilt;

        Unit like() {
            Unit u = new Unit();
            u.kind = kind;
            u.due = due;
            u.from = from;
            u.bytes = bytes.clone();
            u.sum = sum;
            u.code = code;
            u.spans = copy(spans);
            u.spoilt = spoilt;
            return u;
        }
    }

    static final class Taker {
        int state;
        int end;
        boolean knows;
        int knownSum;
        int naks;
        int wait;
        int fins;
        int code = -1;
        List<int[]> gaps = new ArrayList<>();
        int[] bytes = new int[240];

        Taker() {
            Arrays.fill(bytes, -1);
        }

        Taker like() {
            Taker t = new Taker();
            t.state = state;
            t.end = end;
            t.knows = knows;
            t.knownSum = knownSum;
            t.naks = naks;
            t.wait = wait;
            t.fins = fins;
            t.code = code;
            t.gaps = copy(gaps);
            t.bytes = bytes.clone();
            return t;
        }
    }

    static final class World {
        Order order = new Order();
        Node sentence;
        int[] file = {};
        int tick;
        List<Unit> units = new ArrayList<>();
        int sent;
        int sender;
        int next;
        int eofs;
        int sWait;
        int patience;
        List<int[]> resends = new ArrayList<>();
        Taker taker = new Taker();
        Taker saved = new Taker();
        Set<Integer> store = new TreeSet<>();
        List<Integer> journal = new ArrayList<>();
        boolean toDone;

        World like() {
            World w = new World();
            w.order = order;
            w.sentence = sentence;
            w.file = file;
            w.tick = tick;
            for (Unit u : units) {
                w.units.add(u.like());
            }
            w.sent = sent;
            w.sender = sender;
            w.next = next;
            w.eofs = eofs;
            w.sWait = sWait;
            w.patience = patience;
            w.resends = copy(resends);
            w.taker = taker.like();
            w.saved = saved.like();
            w.store = new TreeSet<>(store);
            w.journal = new ArrayList<>(journal);
            w.toDone = toDone;
            return w;
        }

        static World of(Order o) {
            World w = new World();
            w.order = o;
            w.store.addAll(o.has);
            return w;
        }

        void send(Unit u) {
            sent++;
            if (units.size() < 40) {
                u.due = tick + order.get("delay");
                units.add(u);
            }
        }

        void send(int kind) {
            Unit u = new Unit();
            u.kind = kind;
            send(u);
        }

        void sendData(int from, int to) {
            Unit u = new Unit();
            u.from = from;
            u.bytes = Arrays.copyOfRange(file, from, to);
            send(u);
        }

        void sendEof() {
            Unit u = new Unit();
            u.kind = 1;
            u.from = file.length;
            u.sum = sumOf(file);
            send(u);
        }

        void sendNak(List<int[]> spans) {
            Unit u = new Unit();
            u.kind = 2;
            for (int i = 0; i < spans.size() && i < 8; i++) {
                u.spans.add(spans.get(i).clone());
            }
            send(u);
        }

        void sendFin() {
            Unit u = new Unit();
            u.kind = 4;
            u.code = taker.code;
            send(u);
        }

        boolean sends() {
            return sender >= 1 && sender <= 3;
        }

        void tick() {
            List<Unit> due = new ArrayList<>();
            for (Unit u : units) {
                if (u.due == tick) {
                    due.add(u);
                }
            }
            for (Unit u : due) {
                units.remove(u);
                if (Arrays.asList(0, 1, 5, 6).contains(u.kind)) {
                    toTaker(u);
                } else {
                    toSender(u);
                }
            }
            senderActs();
            takerActs();
            if ((tick + 1) % order.get("save") == 0) {
                saved = taker.like();
            }
            tick++;
        }

        void toTaker(Unit u) {
            Taker t = taker;
            int policy = order.get("policy");
            if (u.kind == 0 && t.state <= 1) {
                t.state = 1;
                if (u.from > t.end) {
                    t.gaps = plus(t.gaps, t.end, u.from);
                    if (policy == 0) {
                        List<int[]> just = new ArrayList<>();
                        just.add(new int[] {t.end, u.from});
                        sendNak(just);
                    }
                }
                t.end = Math.max(t.end, u.from + u.bytes.length);
                System.arraycopy(u.bytes, 0, t.bytes, u.from, u.bytes.length);
                int before = size(t.gaps);
                t.gaps = minus(t.gaps, u.from, u.from + u.bytes.length);
                if (size(t.gaps) < before) {
                    t.naks = 0;
                    t.wait = order.get("wait");
                }
            }
            if (u.kind == 1) {
                if (t.state <= 1 && !t.knows) {
                    t.state = 1;
                    t.knows = true;
                    t.knownSum = u.sum;
                    t.gaps = plus(t.gaps, t.end, u.from);
                    t.end = u.from;
                    if (!t.gaps.isEmpty() && policy != 2) {
                        sendNak(t.gaps);
                        t.naks = 1;
                        t.wait = order.get("wait");
                    }
                }
                send(3);
            }
            if (u.kind == 6 && t.state == 1) {
                sendNak(t.gaps);
            }
            if (u.kind == 5 && t.state == 3) {
                t.state = t.code == 0 ? 4 : 5;
            }
        }

        void toSender(Unit u) {
            patience = 6 * order.get("wait");
            if (u.kind == 2 && sends()) {
                for (int[] s : u.spans) {
                    resends = plus(resends, s[0], s[1]);
                }
            }
            if (u.kind == 3 && sender == 2) {
                sender = 3;
            }
            if (u.kind == 4) {
                if (sends()) {
                    sender = u.code == 0 ? 4 : 5;
                }
                send(5);
            }
        }

        void senderActs() {
            int was = sender;
            int chunk = order.get("chunk");
            if (!sends()) {
                return;
            }
            if (!resends.isEmpty()) {
                int from = resends.get(0)[0];
                int to = Math.min(resends.get(0)[1], from + chunk);
                sendData(from, to);
                resends = minus(resends, from, to);
            } else if (sender == 1 && next < file.length) {
                int to = Math.min(file.length, next + chunk);
                sendData(next, to);
                next = to;
            } else if (sender == 1) {
                sendEof();
                eofs = 1;
                sender = 2;
                sWait = order.get("wait");
            }
            if (was == 2 && --sWait == 0) {
                if (eofs == order.get("tries")) {
                    sender = 5;
                } else {
                    sendEof();
                    eofs++;
                    sWait = order.get("wait");
                }
            }
            if (sender == 3 && --patience == 0) {
                sender = 5;
            }
        }

        void finish(int code) {
            taker.code = code;
            taker.state = 3;
            sendFin();
            taker.fins = 1;
            taker.wait = order.get("wait");
        }

        int lackingBelow(int n) {
            int lacking = 0;
            for (int i = 0; i < n; i++) {
                lacking += hasByte(i) ? 0 : 1;
            }
            return lacking;
        }

        boolean hasByte(int i) {
            if (i < 0 || i >= taker.end) {
                return false;
            }
            for (int[] g : taker.gaps) {
                if (g[0] <= i && i < g[1]) {
                    return false;
                }
            }
            return true;
        }

        int takenSum() {
            int[] b = new int[240];
            for (int i = 0; i < 240; i++) {
                b[i] = hasByte(i) ? taker.bytes[i] : -1;
            }
            return sumOf(b);
        }

        void takerActs() {
            Taker t = taker;
            if (t.state == 1 && t.knows) {
                if (t.gaps.isEmpty()) {
                    if (takenSum() != t.knownSum) {
                        finish(1);
                    } else {
                        t.state = 2;
                    }
                } else if (order.get("policy") != 2 && --t.wait == 0) {
                    if (t.naks >= order.get("tries")) {
                        finish(2);
                    } else {
                        sendNak(t.gaps);
                        t.naks++;
                        t.wait = order.get("wait");
                    }
                }
            } else if (t.state == 2) {
                if (!toDone && order.to >= 0) {
                    store.add(order.to);
                    toDone = true;
                } else if (journal.size() < order.acts.size()) {
                    journal.add(how(order.acts.get(journal.size())));
                } else {
                    finish(0);
                }
            } else if (t.state == 3) {
                if (--t.wait == 0) {
                    if (t.fins == order.get("tries")) {
                        t.state = 5;
                    } else {
                        sendFin();
                        t.fins++;
                        t.wait = order.get("wait");
                    }
                }
            }
        }

        int how(int[] act) {
            if (journal.contains(1) || journal.contains(2)) {
                return 2;
            }
            boolean a = store.contains(act[1]);
            boolean b = store.contains(act[2]);
            boolean can = act[0] == 0 ? !a : act[0] == 1 ? a : a && !b;
            if (!can) {
                return 1;
            }
            if (act[0] == 0) {
                store.add(act[1]);
            }
            if (act[0] == 1 || act[0] == 2) {
                store.remove(act[1]);
            }
            if (act[0] >= 2) {
                store.add(act[2]);
            }
            return 0;
        }

        int lose(int k) {
            if (k < 0 || k >= units.size()) {
                return -1;
            }
            units.remove(k);
            return 0;
        }

        int twice(int k) {
            if (k < 0 || k >= units.size()) {
                return -1;
            }
            if (units.size() == 40) {
                return 1;
            }
            units.add(units.get(k).like());
            return 0;
        }

        int late(int k, int n) {
            if (k < 0 || k >= units.size() || n < 1 || n > 60) {
                return -1;
            }
            units.get(k).due += n;
            return 0;
        }

        int spoil(int k) {
            if (k < 0 || k >= units.size()) {
                return -1;
            }
            Unit u = units.get(k);
            if (u.kind != 0) {
                return 1;
            }
            if (u.spoilt) {
                return 2;
            }
            u.spoilt = true;
            u.bytes[0] = 255 - u.bytes[0];
            return 0;
        }

        int prompt() {
            if (!sends()) {
                return 1;
            }
            send(6);
            return 0;
        }

        int crash() {
            if (taker.state == 0 || taker.state == 4 || taker.state == 5) {
                return 1;
            }
            taker = saved.like();
            return 0;
        }

        boolean over() {
            return sender >= 4 && taker.state >= 4;
        }

        int x;

        int draw(int n) {
            x = x * 1103515245 + 12345;
            return (x >>> 8) % n;
        }

        void drawnTick() {
            int d = draw(12);
            if (d <= 1 && !units.isEmpty()) {
                lose(draw(units.size()));
            }
            if (d == 2 && !units.isEmpty()) {
                twice(draw(units.size()));
            }
            if (d == 3 && !units.isEmpty()) {
                int k = draw(units.size());
                late(k, draw(20) + 1);
            }
            if (d == 4 && draw(8) == 0) {
                crash();
            }
            tick();
        }

        /** 0, or why the LINE is WRONG. */
        int live(Object[] line) {
            int k = (Integer) line[1];
            int n = (Integer) line[2];
            int a;
            switch ((String) line[0]) {
                case "lose": return lose(k) == -1 ? 9 : 0;
                case "late": return late(k, n) == -1 ? 9 : 0;
                case "twice":
                    a = twice(k);
                    return a == -1 ? 9 : a == 0 ? 0 : 10 + a;
                case "spoil":
                    a = spoil(k);
                    return a == -1 ? 9 : a == 0 ? 0 : 20 + a;
                case "prompt": return prompt() == 0 ? 0 : 31;
                case "crash": return crash() == 0 ? 0 : 41;
                default:
                    if (2000 - tick < n) {
                        return 51;
                    }
                    for (int i = 0; i < n; i++) {
                        tick();
                    }
                    return 0;
            }
        }
    }

    // ---- the face

    StringBuilder tape = new StringBuilder();
    World w = new World();
    List<World> past = new ArrayList<>();
    World[] images = new World[2];
    int fault;
    int[] overAs = {-1, -1, -1};
    int[] told = {-1, -1, -1, -1};

    void keep(World before) {
        past.add(before);
        if (past.size() > 8) {
            past.remove(0);
        }
    }

    int feed(int a, int b, int c, int d, int e) {
        if (tape.length() > 920) {
            return -1;
        }
        for (int n : new int[] {a, b, c, d, e}) {
            tape.append((char) (n >>> 24)).append((char) (n >>> 16 & 255));
            tape.append((char) (n >>> 8 & 255)).append((char) (n & 255));
        }
        return tape.length();
    }

    int end(int n) {
        if (n < 0 || n > tape.length()) {
            return 0;
        }
        tape.setLength(n);
        return 1;
    }

    String text() {
        String t = tape.toString();
        tape.setLength(0);
        fault = 0;
        return t;
    }

    int order() {
        try {
            Order o = Order.read(text());
            w = World.of(o);
            return o.lines;
        } catch (Fault f) {
            fault = f.kind;
            return -1 - f.place;
        }
    }

    int file() {
        int n = tape.length();
        if (n < 1 || n > 240) {
            return -1;
        }
        keep(w);
        World made = World.of(w.order);
        made.sentence = w.sentence;
        made.file = tape.toString().chars().toArray();
        made.sender = 1;
        w = made;
        tape.setLength(0);
        return n;
    }

    int ticks(int n) {
        if (n < 1 || n > 60) {
            return -1;
        }
        World before = w.like();
        int went = 0;
        while (went < n && w.tick < 2000) {
            w.tick();
            went++;
        }
        if (went > 0) {
            keep(before);
        }
        return went;
    }

    /** lose, twice, late, spoil, prompt, crash. */
    int act(int which, int k, int n) {
        World before = w.like();
        int a;
        switch (which) {
            case 0: a = w.lose(k); break;
            case 1: a = w.twice(k); break;
            case 2: a = w.late(k, n); break;
            case 3: a = w.spoil(k); break;
            case 4: a = w.prompt(); break;
            default: a = w.crash(); break;
        }
        if (a == 0) {
            keep(before);
        }
        return a;
    }

    int undo() {
        if (past.isEmpty()) {
            return -1;
        }
        w = past.remove(past.size() - 1);
        return past.size();
    }

    int now(int what) {
        switch (what) {
            case 0: return w.tick;
            case 1: return w.sender;
            case 2: return w.taker.state;
            case 3: return w.units.size();
            case 4: return w.taker.gaps.size();
            case 5: return w.resends.size();
            case 6: return w.taker.end;
            case 7: return w.next;
            case 8: return w.taker.code;
            case 9: return w.taker.knows ? 1 : 0;
            case 10: return w.sent;
            case 11: return w.file.length;
            default: return -1;
        }
    }

    int unit(int k, int what) {
        if (k < 0 || k >= w.units.size()) {
            throw new NoSuchElementException();
        }
        Unit u = w.units.get(k);
        switch (what) {
            case 0: return u.kind;
            case 1: return u.kind >= 2 && u.kind <= 4 ? 1 : 0;
            case 2: return u.due - w.tick;
            case 3: return u.kind == 2 ? u.spans.size() : u.kind == 4 ? u.code : u.from;
            case 4: return u.bytes.length;
            case 5: return u.spoilt ? 1 : 0;
            default: throw new NoSuchElementException();
        }
    }

    static int edge(List<int[]> spans, int k, int what) {
        return k < 0 || k >= spans.size() || what < 0 || what > 1 ? -1 : spans.get(k)[what];
    }

    int span(int k, int i, int what) {
        return k < 0 || k >= w.units.size() ? -1 : edge(w.units.get(k).spans, i, what);
    }

    int taken(int i) {
        return w.hasByte(i) ? w.taker.bytes[i] : -1;
    }

    int sum(int what) {
        if (what == 0) {
            return sumOf(w.file);
        }
        if (what == 1) {
            return w.takenSum();
        }
        throw new NoSuchElementException();
    }

    int store() {
        int bits = 0;
        for (int n : w.store) {
            bits += 1 << n;
        }
        return bits;
    }

    int journal(int k) {
        return k < 0 || k >= w.journal.size() ? -1 : w.journal.get(k);
    }

    int need() {
        if (w.file.length == 0) {
            return -1;
        }
        List<int[]> lacks = new ArrayList<>();
        for (int i = 0; i < w.file.length; i++) {
            if (!w.hasByte(i)) {
                lacks = plus(lacks, i, i + 1);
            }
        }
        int many = 0;
        for (int[] s : lacks) {
            for (int at = s[0]; at < s[1]; at += w.order.get("chunk")) {
                many++;
            }
        }
        return many;
    }

    int over() {
        if (w.file.length == 0) {
            return -1;
        }
        World t = w.like();
        for (int n = 0; n <= 3000; n++) {
            if (t.over()) {
                overAs = new int[] {t.sender, t.taker.state, t.sent};
                return n;
            }
            t.tick();
        }
        return -1;
    }

    int drawn(int n, int seed) {
        if (n < 1 || n > 60) {
            return -1;
        }
        World before = w.like();
        w.x = seed;
        int went = 0;
        while (went < n && w.tick < 2000) {
            w.drawnTick();
            went++;
        }
        if (went > 0) {
            keep(before);
        }
        return went;
    }

    int odds(int n, int seed) {
        if (n < 1 || n > 20 || w.file.length == 0) {
            return -1;
        }
        int done = 0;
        for (int i = 0; i < n; i++) {
            World t = w.like();
            t.x = seed + i;
            for (int j = 0; j < 300 && t.tick < 2000; j++) {
                t.drawnTick();
            }
            done += t.sender == 4 && t.taker.state == 4 ? 1 : 0;
        }
        return done;
    }

    int book(int lives) {
        if (lives != 0 && lives != 1) {
            return -1000;
        }
        List<Object[]> lines;
        try {
            lines = readBook(text());
        } catch (Fault f) {
            fault = f.kind;
            return -2 - f.place;
        }
        World t = w.like();
        int good = 0;
        int why = 0;
        for (Object[] line : lines) {
            why = t.live(line);
            if (why != 0) {
                break;
            }
            good++;
        }
        told = new int[] {why, good, t.tick, t.units.size()};
        if (lives == 1 && good > 0) {
            keep(w);
            w = t;
        }
        return why == 0 ? -1 : good;
    }

    int sentence() {
        try {
            SentenceReader r = new SentenceReader(text());
            w.sentence = r.whole();
            return r.ones;
        } catch (Fault f) {
            fault = f.kind;
            return -1 - f.place;
        }
    }

    int said(int k) {
        if (w.sentence == null) {
            return -1;
        }
        List<Integer> those = new ArrayList<>();
        for (int i = 0; i < w.units.size(); i++) {
            if (w.sentence.says(w, i)) {
                those.add(i);
            }
        }
        return k == -1 ? those.size() : k < 0 || k >= those.size() ? -1 : those.get(k);
    }

    int image(int k) {
        if (k < 0 || k > 1) {
            return 0;
        }
        images[k] = w.like();
        return 1;
    }

    int restore(int k) {
        if (k < 0 || k > 1 || images[k] == null) {
            return 0;
        }
        w = images[k].like();
        past.clear();
        return 1;
    }

    int count(int what) {
        String[] set = {"chunk", "policy", "delay", "wait", "tries", "save"};
        if (what >= 0 && what < 6) {
            return w.order.get(set[what]);
        }
        return what == 6 ? w.order.names.size() : what == 7 ? w.order.acts.size()
                : what == 8 ? tape.length() : -1;
    }
}
