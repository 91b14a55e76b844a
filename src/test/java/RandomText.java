import java.util.ArrayList;
import java.util.List;
import java.util.Random;

/** Texts for the tests that make random calls. */
final class RandomText {
    private static final String[] FIELDS = {"from", "to", "kind", "mark"};
    private static final int[] MOST = {15, 15, 7, 7};
    private static final String[] SCRAPS = {"policy", "slice", "drop", "pass", "out", "if", "else", "at", "or", "and",
        "not", "any", "in", "from", "to", "kind", "mark", "{", "}", "(", ")", ";", ",", "|", "=", ":=", "..", ":", ".",
        "0", "1", "7", "8", "15", "16", "999", "1000", "0000000007", "99999999999999999999", "a", "abcdefgh",
        "abcdefghi", "A", "\t", "\u00e9", "\u0001", "-"};
    private static final List<String> POOL = new ArrayList<>();

    private RandomText() { }

    static {
        Random random = new Random(7);
        for (int i = 0; i < 24; i++) {
            POOL.add("policy q" + (char) ('a' + i) + " { " + policy(random, 1 + i % 3) + " }");
        }
        // many rules, so that tables become full
        POOL.add("policy big { if mark = 1 .. 6 and from = 3 .. 12 { out 1 } else { out 2 } }");
        POOL.add("policy wide { if to = 0 .. 6 and kind = 1 .. 6 and not mark = 3 { out 1; mark := 1 } else { kind := 1; out 2 | out 3 } }");
        POOL.add("policy part { if to = 1 .. 14 and from = 1 .. 14 { out 1 } else { at 0, 2 { out 2 } } }");
        // many copies, and actions that make the same ones
        POOL.add("policy flood { out 0 | out 1 | out 2 | mark := 1; out 1 | kind := 2; (out 1 | out 2) }");
        POOL.add("policy round { out 1 | mark := 2; out 1 | if kind = 1 { out 2 } else { out 0 } }");
    }

    /** One of a few policies, so that the oracle need not tabulate each text anew. */
    static String pooled(Random random) {
        return random.nextInt(4) == 0
                ? "slice s" + (char) ('a' + random.nextInt(26)) + " { " + test(random, 2, false) + " }"
                : POOL.get(random.nextInt(POOL.size()));
    }

    private static String number(Random random, int most) {
        return "" + (random.nextInt(60) == 0 ? random.nextInt(1100) : random.nextInt(most + 1));
    }

    static String fact(Random random, boolean mayIn) {
        int f = random.nextInt(mayIn ? 7 : 5);
        if (f == 4) {
            return "any";
        }
        if (f > 4) {
            return "in " + number(random, 5);
        }
        if (random.nextBoolean()) {
            return FIELDS[f] + " = " + number(random, MOST[f]);
        }
        int a = random.nextInt(MOST[f] + 1);
        int b = random.nextInt(MOST[f] + 1);
        return FIELDS[f] + " = " + (random.nextInt(30) == 0 ? Math.max(a, b) : Math.min(a, b)) + " .. " + Math.max(a, b);
    }

    static String test(Random random, int depth, boolean mayIn) {
        switch (depth <= 0 ? 0 : random.nextInt(7)) {
            case 0:
            case 1:
            case 2:
                return fact(random, mayIn);
            case 3:
                return "not " + fact(random, mayIn);
            case 4:
                return "(" + test(random, depth - 1, mayIn) + " or " + test(random, depth - 1, mayIn) + ")";
            case 5:
                return test(random, depth - 1, mayIn) + " and " + fact(random, mayIn);
            default:
                return "not (" + test(random, depth - 1, mayIn) + ")";
        }
    }

    static String unit(Random random, int depth) {
        int f = random.nextInt(4);
        switch (random.nextInt(depth <= 0 ? 6 : 11)) {
            case 0:
            case 1:
                return "out " + number(random, 5);
            case 2:
                return FIELDS[f] + " := " + number(random, MOST[f]);
            case 3:
                return "pass";
            case 4:
                return "out " + number(random, 3);
            case 5:
                return random.nextInt(4) == 0 ? "drop" : "out " + number(random, 2);
            case 6:
            case 7:
                return "if " + test(random, 2, true) + " { " + policy(random, depth - 1) + " } else { "
                        + policy(random, depth - 1) + " }";
            case 8:
                return "if " + test(random, 2, true) + " { " + policy(random, depth - 1) + " }";
            case 9:
                return "at " + number(random, 7) + "," + number(random, 3) + " { " + policy(random, depth - 1) + " }";
            default:
                if (random.nextBoolean()) {
                    int port = random.nextInt(4);
                    return "( out " + port + " | " + FIELDS[f] + " := " + number(random, MOST[f]) + "; out " + port + " )";
                }
                return "( " + policy(random, depth - 1) + " )";
        }
    }

    static String policy(Random random, int depth) {
        StringBuilder text = new StringBuilder();
        int rows = random.nextInt(3) == 0 ? 2 : 1;
        for (int i = 0; i < rows; i++) {
            text.append(i > 0 ? " | " : "");
            int units = 1 + random.nextInt(3);
            for (int j = 0; j < units; j++) {
                text.append(j > 0 ? "; " : "").append(unit(random, depth));
            }
        }
        return text.toString();
    }

    /** A text that may have errors of each kind. */
    static String anyText(Random random) {
        StringBuilder text = new StringBuilder();
        switch (random.nextInt(6)) {
            case 0:
                for (int i = random.nextInt(20); i > 0; i--) {
                    text.append(SCRAPS[random.nextInt(SCRAPS.length)]).append(random.nextInt(3) == 0 ? "" : " ");
                }
                break;
            case 1:
                return nested(random);
            case 2:
                text.append("slice ").append(name(random)).append("{").append(test(random, 4, random.nextInt(9) == 0)).append("}");
                break;
            case 3:
                for (int i = 0; i < 7 && random.nextInt(20) > 0; i++) {
                    text.append("policy ").append((char) ('a' + i)).append("{out 1}\n");
                }
                for (int i = 0; i < 7 && random.nextInt(20) > 0; i++) {
                    text.append("slice ").append((char) ('a' + i)).append("{any}");
                }
                break;
            default:
                text.append("policy ").append(name(random)).append(" { ").append(policy(random, random.nextInt(4))).append(" }");
                break;
        }
        for (int i = random.nextInt(3); i > 0 && text.length() > 0; i--) {
            int at = random.nextInt(text.length());
            if (random.nextBoolean()) {
                text.deleteCharAt(at);
            } else {
                text.insert(at, SCRAPS[random.nextInt(SCRAPS.length)]);
            }
        }
        return text.toString();
    }

    private static String name(Random random) {
        return random.nextInt(20) == 0 ? SCRAPS[random.nextInt(SCRAPS.length)] : "n" + (char) ('a' + random.nextInt(8));
    }

    /** A text that is about 20 deep. */
    private static String nested(Random random) {
        int depth = 17 + random.nextInt(6);
        StringBuilder text = new StringBuilder(random.nextBoolean() ? "slice deep { " : "policy deep { if ");
        boolean isSlice = text.charAt(0) == 's';
        StringBuilder tail = new StringBuilder();
        for (int i = 1; i < depth; i++) {
            boolean isNot = random.nextBoolean();
            text.append(isNot ? "not " : "( ");
            tail.append(isNot ? "" : ")");
        }
        text.append("any").append(tail).append(isSlice ? "" : " { out 1 }").append(" }");
        return text.toString();
    }
}
