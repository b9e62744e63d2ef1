import java.util.ArrayList;
import java.util.List;
import java.util.Random;

/** Random texts, most of them good or nearly so, and texts as numbers for feed(). */
final class TextMaker {
    private static final String[] NAMES = {"a", "b", "c", "disc", "mars", "venus", "io", "zzzzzzz", "moon",
        "pluto", "ceres", "eros"};
    private static final String[] SAID = {"data", "eof", "nak", "ack", "fin", "out", "spoilt"};
    private static final String[] MEASURES = {"from", "many", "ticks", "number"};
    private static final String[] STRAY = {";", "(", ")", "<", "=", ">", ".", "-", "A", "tick", "lose", "0",
        "1", "99", "999", "1000", "12a", "abcdefgh", "a", "not", "and", "or", "has", "act", "\t", "\r"};

    private TextMaker() {
    }

    static List<int[]> numbers(String text) {
        List<int[]> all = new ArrayList<>();
        for (int i = 0; i < text.length(); i += 20) {
            int[] five = new int[5];
            for (int j = 0; j < 20; j++) {
                int sign = i + j < text.length() ? text.charAt(i + j) : 'x';
                five[j / 4] = five[j / 4] << 8 | sign;
            }
            all.add(five);
        }
        return all;
    }

    private static String pick(Random r, String... those) {
        return those[r.nextInt(those.length)];
    }

    private static int near(Random r, int least, int most) {
        int span = most - least + 1;
        return r.nextInt(40) == 0 ? (r.nextBoolean() ? most + 1 : 0) : least + r.nextInt(span);
    }

    private static String name(Random r) {
        int n = r.nextInt(6) == 0 ? NAMES.length : 6;
        return NAMES[r.nextInt(n)];
    }

    static String order(Random r) {
        List<String> parts = new ArrayList<>();
        if (r.nextInt(3) > 0) {
            parts.add("chunk " + near(r, 1, 32) + ";");
        }
        if (r.nextInt(3) > 0) {
            parts.add("policy " + pick(r, "now", "end", "asked") + ";");
        }
        if (r.nextInt(3) > 0) {
            parts.add("delay " + near(r, 1, r.nextBoolean() ? 3 : 9) + ";");
        }
        if (r.nextInt(3) > 0) {
            parts.add("wait " + near(r, 1, r.nextBoolean() ? 6 : 60) + ";");
        }
        if (r.nextInt(3) > 0) {
            parts.add("tries " + near(r, 1, r.nextBoolean() ? 2 : 9) + ";");
        }
        if (r.nextInt(3) > 0) {
            parts.add("save " + near(r, 1, r.nextBoolean() ? 5 : 60) + ";");
        }
        if (r.nextInt(3) > 0) {
            parts.add("to " + name(r) + ";");
        }
        List<String> names = new ArrayList<>();
        for (int i = r.nextInt(4); i > 0; i--) {
            String name = name(r);
            if (!names.contains(name) || r.nextInt(20) == 0) {
                parts.add("has " + name + ";");
            }
            names.add(name);
        }
        for (int i = r.nextInt(r.nextInt(10) == 0 ? 9 : 6); i > 0; i--) {
            parts.add(act(r));
        }
        java.util.Collections.shuffle(parts, r);
        return spoil(r, join(r, parts), 900);
    }

    static String stormOrder(Random r) {
        return "chunk " + (1 + r.nextInt(4)) + ";delay " + (1 + r.nextInt(9)) + ";wait " + (1 + r.nextInt(9))
                + ";policy " + pick(r, "now", "end", "asked") + ";tries " + (1 + r.nextInt(3))
                + ";save " + (1 + r.nextInt(9)) + ";to a;act make b;act move b c;act copy c b;act drop a;";
    }

    private static String act(Random r) {
        String a = name(r);
        String b = name(r);
        if (r.nextBoolean()) {
            return "act " + pick(r, "make", "drop") + " " + a + ";";
        }
        if (a.equals(b) && r.nextInt(10) > 0) {
            b = a.equals("a") ? "b" : "a";
        }
        return "act " + pick(r, "move", "copy") + " " + a + " " + b + ";";
    }

    static String book(Random r, int units) {
        List<String> parts = new ArrayList<>();
        int top = Math.max(1, Math.min(40, units + 1));
        int many = r.nextInt(60) == 0 ? 35 + r.nextInt(10) : r.nextInt(7);
        for (int i = 0; i < many; i++) {
            int k = r.nextInt(30) == 0 ? near(r, 0, 39) : r.nextInt(top);
            switch (r.nextInt(10)) {
                case 0: parts.add("lose " + k + ";"); break;
                case 1: parts.add("twice " + k + ";"); break;
                case 2: parts.add("late " + k + " " + near(r, 1, 60) + ";"); break;
                case 3: parts.add("spoil " + k + ";"); break;
                case 4: parts.add("prompt;"); break;
                case 5: parts.add("crash;"); break;
                default: parts.add("tick " + (r.nextInt(4) == 0 ? near(r, 1, 60) : 1 + r.nextInt(5)) + ";"); break;
            }
        }
        return spoil(r, join(r, parts), 400);
    }

    static String sentence(Random r) {
        int deep = r.nextInt(30) == 0 ? 12 : r.nextInt(4);
        StringBuilder b = new StringBuilder(cond(r, deep));
        if (r.nextInt(25) == 0) {
            for (int i = 0; i < 22; i++) {
                b.append(r.nextBoolean() ? " or " : " and ").append(one(r, 0));
            }
        }
        return spoil(r, b.toString(), 200);
    }

    private static String cond(Random r, int deep) {
        StringBuilder b = new StringBuilder(one(r, deep));
        for (int i = r.nextInt(3); i > 0; i--) {
            b.append(r.nextBoolean() ? " or " : " and ").append(one(r, deep > 4 ? 0 : deep - 1));
        }
        return b.toString();
    }

    private static String one(Random r, int deep) {
        if (deep > 0 && r.nextInt(8) > 0) {
            return r.nextBoolean() ? "not " + one(r, deep - 1) : "(" + cond(r, deep - 1) + ")";
        }
        if (r.nextBoolean()) {
            return pick(r, SAID);
        }
        return pick(r, MEASURES) + pick(r, "<", "=", ">") + r.nextInt(r.nextBoolean() ? 5 : 60);
    }

    private static String join(Random r, List<String> parts) {
        StringBuilder b = new StringBuilder();
        for (String p : parts) {
            b.append(p).append(r.nextInt(10) == 0 ? "\n " : "");
        }
        return b.toString();
    }

    /** Now and then a sign or token too many, too few, or another one; or a text that is too long. */
    private static String spoil(Random r, String text, int most) {
        StringBuilder b = new StringBuilder(text);
        if (r.nextInt(5) == 0) {
            int at = r.nextInt(b.length() + 1);
            switch (r.nextInt(3)) {
                case 0: b.insert(at, pick(r, STRAY)); break;
                case 1:
                    if (at < b.length()) {
                        b.deleteCharAt(at);
                    }
                    break;
                default:
                    if (at < b.length()) {
                        b.setCharAt(at, (char) r.nextInt(256));
                    }
                    break;
            }
        }
        if (r.nextInt(40) == 0) {
            int target = most - 12 + r.nextInt(20);
            while (b.length() < target) {
                b.insert(r.nextInt(20) == 0 ? b.length() : 0, r.nextInt(30) == 0 ? "\n" : " ");
            }
        }
        return b.toString();
    }
}
