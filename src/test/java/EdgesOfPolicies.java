/** The boundaries that sections 4, 5 and 8 and the promises 15 to 22 name: rules, actions, slices, walks. */
public final class EdgesOfPolicies {
    private static final int NONE = -1;
    private static final int MAX = Integer.MAX_VALUE, MIN = Integer.MIN_VALUE;
    private static final Class<? extends RuntimeException> INDEX = Run.INDEX, ARGUMENT = Run.ARGUMENT,
            ELEMENT = Run.ELEMENT;
    private static final String[] FIELDS = {"from", "to", "kind", "mark"};
    private static final int[] MOST = {15, 15, 7, 7};
    private static final int[] UNIT = {1024, 64, 8, 1};

    public static void main(String[] args) {
        numbersOfRules();
        oneRuleOrNone();
        firstBitFirst();
        eachBitAlone();
        rowsOfAnAction();
        eightActions();
        eachValueWritten();
        orderOfActions();
        cardsWithoutAPort();
        testsOfFields();
        testsOfPorts();
        numbersOfSlices();
        numbersOfWalks();
        noHeaderAndAll();
        twelveLinks();
        copies64();
        avoids();
        strays();
        leastHeader();
        linksCountAsUp();
        Run.end("EdgesOfPolicies");
    }

    private static Run store(int promise, String sentence, String text) {
        return new Run(promise, sentence).text(text).call("load");
    }

    // ---- promises 15 and 16

    private static void numbersOfRules() {
        Run x = store(15, "a rule of a policy for one of the switches 0 to 7, which need not be there",
                "policy a { at 1, 7 { if to = 4 .. 7 { out 1 | out 2 } else { out 3 } } | at 2 { out 0 } } policy b { drop }");
        x.is(0, "rules", 0, 0).is(3, "rules", 0, 1).is(1, "rules", 0, 2).is(0, "rules", 0, 6).is(3, "rules", 0, 7)
                .is(0, "rules", 1, 7);
        x.are("ruleAt", Run.of(0, 1, 0), 768, 0, 1).are("ruleAt", Run.of(0, 1, 1), 768, 256, 2)
                .are("ruleAt", Run.of(0, 7, 2), 512, 512, 1);
        x.refuses(INDEX, "ruleAt", -1, 1, 0, 0).refuses(INDEX, "ruleAt", 2, 1, 0, 0)
                .refuses(INDEX, "ruleAt", 0, -1, 0, 0);
        x.refuses(INDEX, "ruleAt", 0, 8, 0, 0).refuses(INDEX, "ruleAt", 0, 1, -1, 0)
                .refuses(INDEX, "ruleAt", 0, 1, 3, 0);
        x.refuses(INDEX, "ruleAt", 0, 0, 0, 0).refuses(INDEX, "ruleAt", 1, 1, 0, 0)
                .refuses(INDEX, "ruleAt", 0, 2, 1, 0);
        x.refuses(INDEX, "ruleAt", MIN, 1, 0, 0).refuses(INDEX, "ruleAt", 0, MAX, 0, 0)
                .refuses(INDEX, "ruleAt", 0, 1, MAX, 0);
        x.refuses(ARGUMENT, "ruleAt", 0, 1, 0, -1).refuses(ARGUMENT, "ruleAt", 0, 1, 2, 3)
                .refuses(ARGUMENT, "ruleAt", 0, 1, 0, MAX);
        x.refuses(INDEX, "ruleAt", 0, 1, 3, 3).refuses(INDEX, "ruleAt", 2, 1, 0, -1)
                .refuses(INDEX, "ruleAt", 0, 8, 0, 3);
        x.refuses(INDEX, "rules", -1, 0).refuses(INDEX, "rules", 2, 0).refuses(INDEX, "rules", 0, -1)
                .refuses(INDEX, "rules", 0, 8);
        x.refuses(INDEX, "rules", MAX, 0).refuses(INDEX, "rules", 0, MIN);
    }

    private static void oneRuleOrNone() {
        for (String one : new String[] {"out 5", "if any { out 5 }", "if to = 3 { out 5 } else { out 5 }",
                "to := 1 ; out 2 ; out 5",
            "if to = 0 .. 15 and mark = 0 .. 7 { out 5 } else { out 1 }", "drop | out 5 | pass",
                    "if from = 3 { pass } else { to := 1 } | out 5"}) {
            Run x = store(16, "if all rows have the same list, it is one rule: " + one, "policy a { " + one + " }");
            x.is(1, "rules", 0, 0).are("ruleAt", Run.of(0, 0, 0), 0, 0, 1).is(5, "actionAt", 0, 0, 131071, 0, 0);
        }
        for (String none : new String[] {"drop", "pass", "to := 1", "out 1 ; drop", "drop ; out 1",
                "if not any { out 1 }", "if any { pass } else { out 1 }",
            "if in 1 { pass } else { mark := 1 | kind := 1 }", "at 1, 2, 3, 4, 5, 6, 7 { out 1 }"}) {
            Run x = store(16, "no rule, if the list is empty: " + none, "policy a { " + none + " }");
            x.is(0, "rules", 0, 0).refuses(INDEX, "ruleAt", 0, 0, 0, 0).refuses(ELEMENT, "actionAt", 0, 0, 0, 0, 0);
        }
    }

    private static void firstBitFirst() {
        Run x = store(15, "the first bit on which the list depends, then those of the rows with 0 there, then with 1",
                "policy a { if in 1 and mark = 7 { out 1 } } policy b { if from = 8 .. 15 { out 1 } else { if mark = 1 { out 2 } } }"
                + "policy c { if mark = 0 { out 1 } else { mark := 0 ; out 1 } } policy d { if not (in 0 or in 1 or in 2 or in 3 or in 4 or in 5) { out 1 } }");
        x.is(1, "rules", 0, 0).are("ruleAt", Run.of(0, 0, 0), 7 * 16384 + 7, 16384 + 7, 1);
        x.is(2, "rules", 1, 0).are("ruleAt", Run.of(1, 0, 0), 8192 + 7, 1, 1)
                .are("ruleAt", Run.of(1, 0, 1), 8192, 8192, 1);
        x.is(4, "rules", 2, 0).are("ruleAt", Run.of(2, 0, 0), 7, 0, 1).are("ruleAt", Run.of(2, 0, 1), 7, 1, 1);
        x.are("ruleAt", Run.of(2, 0, 2), 6, 2, 1).are("ruleAt", Run.of(2, 0, 3), 4, 4, 1);
        x.is(1, "rules", 3, 0).are("ruleAt", Run.of(3, 0, 0), 6 * 16384, 6 * 16384, 1);
        x.is(1, "actionAt", 3, 0, 6 * 16384, 0, 0).is(1, "actionAt", 3, 0, 7 * 16384 + 16383, 0, 0);
        x.refuses(ELEMENT, "actionAt", 3, 0, 6 * 16384 - 1, 0, 0);
    }

    private static void eachBitAlone() {
        for (int f = 0; f < 4; f++) {
            for (int bit = 1; bit <= MOST[f]; bit *= 2) {
                StringBuilder test = new StringBuilder("not any");
                for (int v = 0; v <= MOST[f]; v++) {
                    test.append((v & bit) != 0 ? " or " + FIELDS[f] + " = " + v : "");
                }
                int mask = bit * UNIT[f];
                Run x = store(15, "two rows that differ in this bit alone have unlike lists", "policy a { if " + test
                        + " { out 1 | out 2 } else { out 0 } }");
                x.is(2, "rules", 0, 3).are("ruleAt", Run.of(0, 3, 0), mask, 0, 1)
                        .are("ruleAt", Run.of(0, 3, 1), mask, mask, 2);
            }
        }
        Run x = store(15, "the bits of the port",
                "policy a { if in 0 or in 1 or in 2 or in 3 { out 0 } else { out 1 } } policy b { if in 0 or in 1 or in 4 or in 5 { out 0 } else { out 1 } }");
        x.is(2, "rules", 0, 0).are("ruleAt", Run.of(0, 0, 1), 65536, 65536, 1).is(2, "rules", 1, 0)
                .are("ruleAt", Run.of(1, 0, 1), 32768, 32768, 1);
    }

    // ---- promise 17

    private static void rowsOfAnAction() {
        Run x = store(17, "rows of 17 bits, their actions, and what these write",
                "policy a { if not (in 0 or in 1 or in 2 or in 3 or in 4 or in 5) { out 4 } else { if mark = 7 { drop } else { out 1 | to := 0 ; out 2 } } } policy b { drop }");
        x.are("actionAt", Run.of(0, 0, 131071, 0), 4, NONE, NONE, NONE, NONE)
                .are("actionAt", Run.of(0, 7, 0, 1), 2, NONE, 0, NONE, NONE);
        x.refuses(INDEX, "actionAt", -1, 0, 0, 0, 0).refuses(INDEX, "actionAt", 2, 0, 0, 0, 0)
                .refuses(INDEX, "actionAt", 0, -1, 0, 0, 0);
        x.refuses(INDEX, "actionAt", 0, 8, 0, 0, 0).refuses(INDEX, "actionAt", MAX, 0, 0, 0, 0)
                .refuses(INDEX, "actionAt", 0, MIN, 0, 0, 0);
        x.refuses(ARGUMENT, "actionAt", 0, 0, -1, 0, 0).refuses(ARGUMENT, "actionAt", 0, 0, 131072, 0, 0)
                .refuses(ARGUMENT, "actionAt", 0, 0, MAX, 0, 0);
        x.refuses(ARGUMENT, "actionAt", 0, 0, 0, 0, -1).refuses(ARGUMENT, "actionAt", 0, 0, 0, 0, 5)
                .refuses(ARGUMENT, "actionAt", 0, 0, 0, 0, MIN);
        x.refuses(ELEMENT, "actionAt", 0, 0, 0, 2, 0).refuses(ELEMENT, "actionAt", 0, 0, 0, -1, 0)
                .refuses(ELEMENT, "actionAt", 0, 0, 131071, 1, 0);
        x.refuses(ELEMENT, "actionAt", 0, 0, 7, 0, 0).refuses(ELEMENT, "actionAt", 1, 0, 0, 0, 0)
                .refuses(ELEMENT, "actionAt", 0, 0, 0, MAX, 0);
        x.refuses(ELEMENT, "actionAt", 0, 0, 0, MIN, 4);
        // the one that is listed first
        x.refuses(INDEX, "actionAt", 2, 0, 131072, 0, 0).refuses(INDEX, "actionAt", 0, 8, 0, 0, 5)
                .refuses(INDEX, "actionAt", 2, 0, 0, 99, 0);
        x.refuses(ARGUMENT, "actionAt", 0, 0, 131072, 99, 0).refuses(ARGUMENT, "actionAt", 0, 0, 7, 0, 5)
                .refuses(ARGUMENT, "actionAt", 1, 0, -1, -1, 0);
    }

    private static void eightActions() {
        Run x = store(17, "as many actions as the width allows",
                "policy a { out 0 | out 1 | out 2 | out 3 | out 4 | out 5 | mark := 7 ; out 5 | from := 15 ; out 5 }");
        x.is(8, "ruleAt", 0, 0, 0, 2).are("actionAt", Run.of(0, 0, 0, 6), 5, NONE, NONE, NONE, 7)
                .are("actionAt", Run.of(0, 0, 0, 7), 5, 15, NONE, NONE, NONE);
        x.refuses(ELEMENT, "actionAt", 0, 0, 0, 8, 0);
        Run y = store(17, "cards that are the same are one",
                "policy a { out 1 | out 2 ; out 1 | mark := 3 ; out 1 | mark := 4 ; mark := 3 ; out 1 | out 1 ; mark := 3 | pass ; out 1 | drop | pass }");
        y.is(2, "ruleAt", 0, 0, 0, 2).are("actionAt", Run.of(0, 0, 0, 1), 1, NONE, NONE, NONE, 3)
                .refuses(ELEMENT, "actionAt", 0, 0, 0, 2, 0);
    }

    private static void eachValueWritten() {
        for (int v = 0; v < 16; v++) {
            int w = v % 8;
            Run x = store(17, "what is written, each value", "policy a { from := " + v + " ; to := " + (15 - v)
                    + " ; kind := " + w + " ; mark := " + (7 - w) + " ; out " + v % 6 + " }"
                    + "policy b { from := " + v + " ; out 0 | to := " + v + " ; out 1 | kind := " + w
                            + " ; out 2 | mark := " + w + " ; out 3 }");
            x.are("actionAt", Run.of(0, 0, 12345, 0), v % 6, v, 15 - v, w, 7 - w);
            x.are("actionAt", Run.of(1, 0, 12345, 0), 0, v, NONE, NONE, NONE)
                    .are("actionAt", Run.of(1, 0, 12345, 1), 1, NONE, v, NONE, NONE);
            x.are("actionAt", Run.of(1, 0, 12345, 2), 2, NONE, NONE, w, NONE)
                    .are("actionAt", Run.of(1, 0, 12345, 3), 3, NONE, NONE, NONE, w);
        }
    }

    private static void orderOfActions() {
        int[][] due = {{0, 15, 15, 7, 7}, {1, NONE, NONE, NONE, NONE}, {1, NONE, NONE, NONE, 0},
                {1, NONE, NONE, NONE, 7},
            {1, NONE, NONE, 0, NONE}, {1, NONE, 0, NONE, NONE}, {1, 0, NONE, NONE, NONE}, {1, 0, NONE, NONE, 0}};
        int[][] more = {{1, NONE, NONE, 7, 7}, {1, NONE, 0, NONE, NONE}, {1, NONE, 0, NONE, 0}, {1, NONE, 0, 0, NONE},
            {1, NONE, 15, NONE, NONE}, {1, 0, 15, 7, 7}, {1, 1, NONE, NONE, NONE}, {2, NONE, NONE, NONE, NONE}};
        for (int[][] actions : new int[][][] {due, more}) {
            for (int shift = 0; shift < 8; shift++) {
                StringBuilder text = new StringBuilder("policy a { ");
                for (int i = 0; i < 8; i++) {
                    int[] action = actions[(11 * shift + 3 * i) % 8];
                    text.append(i > 0 ? " | " : "").append("out ").append(action[0]);
                    for (int f = 0; f < 4; f++) {
                        text.append(action[1 + f] != NONE ? " ; " + FIELDS[f] + " := " + action[1 + f] : "");
                    }
                }
                Run x = store(17, "actions are in order: by the port, then by from, to, kind and mark, NONE ahead",
                        text + " }");
                for (int i = 0; i < 8; i++) {
                    x.are("actionAt", Run.of(0, 0, 0, i), actions[i][0], actions[i][1], actions[i][2], actions[i][3],
                            actions[i][4]);
                }
            }
        }
    }

    private static void cardsWithoutAPort() {
        Run x = store(17, "those without a port vanish, the others stay",
                "policy a { mark := 1 | out 1 | pass | kind := 2 ; out 0 ; out 3 } policy b { if in 0 { out 2 } | mark := 1 }");
        x.is(2, "ruleAt", 0, 0, 0, 2).are("actionAt", Run.of(0, 0, 0, 0), 1, NONE, NONE, NONE, NONE)
                .are("actionAt", Run.of(0, 0, 0, 1), 3, NONE, NONE, 2, NONE);
        x.is(1, "rules", 1, 0).is(1, "ruleAt", 1, 0, 0, 2).refuses(ELEMENT, "actionAt", 1, 0, 16384, 0, 0);
    }

    // ---- tests, and promise 18

    private static void testsOfFields() {
        for (int f = 0; f < 4; f++) {
            int most = MOST[f];
            int[][] ranges = {{0, 0}, {most, most}, {0, most}, {1, most - 1}, {3, 5}, {most / 2, most / 2 + 1}};
            StringBuilder text = new StringBuilder();
            for (int i = 0; i < 6; i++) {
                boolean isOne = ranges[i][0] == ranges[i][1] && i == 0;
                text.append("slice ").append((char) ('a' + i)).append(" { ").append(FIELDS[f]).append(" = ")
                        .append(ranges[i][0])
                        .append(isOne ? "" : " .. " + ranges[i][1]).append(" }");
            }
            Run x = store(18, "FIELD = A .. B: if it is A to B", text.toString());
            for (int i = 0; i < 6 * (most + 1); i++) {
                int v = i / 6;
                int others = 16383 - most * UNIT[f];
                boolean due = v >= ranges[i % 6][0] && v <= ranges[i % 6][1];
                x.is(due ? 1 : 0, "has", i % 6, v * UNIT[f]).is(due ? 1 : 0, "has", i % 6, v * UNIT[f] + others);
            }
            Run y = store(17, "a test of the value as it is then", "policy a { " + FIELDS[f] + " := 3 ; if "
                    + FIELDS[f] + " = 3 { out 1 } else { out 2 } }"
                    + "policy b { " + FIELDS[f] + " := 3 ; if " + FIELDS[f] + " = 4 .. " + most
                            + " { out 1 } else { out 2 } } policy c { " + FIELDS[f] + " := 3 ; if " + FIELDS[f]
                            + " = 0 .. 2 { out 1 } else { out 2 } }");
            for (int v : new int[] {0, 2, 3, 4, most}) {
                y.is(1, "actionAt", 0, 0, v * UNIT[f], 0, 0).is(2, "actionAt", 1, 0, v * UNIT[f], 0, 0)
                        .is(2, "actionAt", 2, 0, v * UNIT[f], 0, 0);
            }
        }
    }

    private static void testsOfPorts() {
        for (int port = 0; port < 6; port++) {
            Run x = store(17, "in A: if the copy arrived at the port A", "policy a { if in " + port
                    + " { out 1 } else { out 2 } } policy b { out " + port + " ; if in " + port
                    + " { out 1 } else { out 2 } }");
            for (int i = 0; i < 8; i++) {
                x.is(i == port ? 1 : 2, "actionAt", 0, 0, i * 16384, 0, 0)
                        .is(i == port ? 1 : 2, "actionAt", 0, 0, i * 16384 + 16383, 0, 0);
                x.is(i == port ? 1 : 2, "actionAt", 1, 0, i * 16384, 0, 0);
            }
        }
    }

    private static void numbersOfSlices() {
        Run x = store(18, "a slice that is there, a header 0 to 16383",
                "slice a { from = 0 and to = 0 and kind = 0 and mark = 0 } slice b { from = 15 and to = 15 and kind = 7 and mark = 7 } policy c { drop }");
        x.is(1, "has", 0, 0).is(0, "has", 0, 1).is(0, "has", 0, 16383).is(0, "has", 1, 0).is(0, "has", 1, 16382)
                .is(1, "has", 1, 16383);
        x.refuses(INDEX, "has", -1, 0).refuses(INDEX, "has", 2, 0).refuses(INDEX, "has", MAX, 0)
                .refuses(ARGUMENT, "has", 0, -1);
        x.refuses(ARGUMENT, "has", 0, 16384).refuses(ARGUMENT, "has", 1, MIN).refuses(INDEX, "has", 2, 16384)
                .refuses(INDEX, "has", -1, -1);
    }

    // ---- promises 19 to 22

    private static void numbersOfWalks() {
        Run x = new Run(19, "numbers of policies, hosts and switches that are there")
                .house(2, "policy a { out 1 } policy b { out 2 }");
        for (long policy : new long[] {-1, 2, MAX, MIN}) {
            x.refuses(INDEX, "reach", policy, 0, 0).refuses(INDEX, "avoids", policy, 0, 0, 0)
                    .refuses(INDEX, "astray", policy, 0);
            x.refuses(INDEX, "differsAt", policy, 0, 0).refuses(INDEX, "differsAt", 0, policy, 0);
        }
        for (long host : new long[] {-1, 3, MAX, MIN}) {
            x.refuses(INDEX, "reach", 0, host, 0).refuses(INDEX, "reach", 0, 0, host)
                    .refuses(INDEX, "avoids", 0, host, 0, 0);
            x.refuses(INDEX, "avoids", 0, 0, host, 0).refuses(INDEX, "avoids", 0, 0, 0, host)
                    .refuses(INDEX, "astray", 0, host);
            x.refuses(INDEX, "differsAt", 0, 1, host);
        }
        x.is(16384, "reach", 0, 0, 2).is(16384, "reach", 1, 0, 1).is(16384, "avoids", 1, 1, 1, 2).is(0, "astray", 0, 2)
                .is(0, "differsAt", 1, 0, 0);
    }

    private static void noHeaderAndAll() {
        Run x = new Run(19, "0 headers, one, all but one, all")
                .house(2, "policy a { drop } policy b { if from = 15 and to = 15 and kind = 7 and mark = 7 { out 2 } }"
                + "policy c { if from = 0 and to = 0 and kind = 0 and mark = 0 { drop } else { out 2 } } policy d { out 2 }");
        x.is(0, "reach", 0, 0, 1).is(1, "reach", 1, 0, 1).is(16383, "reach", 2, 0, 1).is(16384, "reach", 3, 0, 1);
        x.is(0, "avoids", 0, 0, 1, 1).is(1, "avoids", 1, 0, 1, 1).is(16383, "avoids", 2, 0, 1, 1)
                .is(16384, "avoids", 3, 0, 1, 1);
        x.is(0, "reach", 3, 0, 0).is(0, "reach", 3, 0, 2).is(16384, "reach", 3, 1, 1).is(0, "reach", 3, 2, 1);
        Run y = new Run(21, "0 headers, one, all but one, all")
                .house(2, "policy a { drop } policy b { if from = 15 and to = 15 and kind = 7 and mark = 7 { out 3 } }"
                + "policy c { if from = 0 and to = 0 and kind = 0 and mark = 0 { drop } else { out 3 } } policy d { out 3 }");
        y.is(0, "astray", 0, 0).is(1, "astray", 1, 0).is(16383, "astray", 2, 0).is(16384, "astray", 3, 0);
    }

    /** On the ring, from host 0: a copy comes back to switch 0 by 4, 8 and 12 links; then it does what LAST tells. */
    private static final String ROUNDS = "{ at 0 { if in 2 { mark := 1; out 1 } else { if mark = 1 { mark := 2; out 1 } else "
            + "{ if mark = 2 { mark := 3; out 1 } else { LAST } } } } | at 1 { if mark = 4 { out 2 } else { out 1 } } | at 2, 3 { out 1 } } ";

    private static void twelveLinks() {
        Run x = new Run(19, "a copy is on 12 links, and EXPIRED instead of on its 13th");
        x.house(1, "policy a " + ROUNDS.replace("LAST", "out 2") + "policy b "
                + ROUNDS.replace("LAST", "mark := 4; out 1"));
        x.is(16384, "reach", 0, 0, 0).is(0, "reach", 1, 0, 1).is(0, "astray", 0, 0).is(16384, "astray", 1, 0);
        x.is(0, "reach", 1, 0, 0).is(0, "avoids", 0, 0, 0, 3).is(0, "differsAt", 0, 1, 0);
        // from host 1 a mark 1 makes the longest way: it comes back to switch 1 by 12 links
        x.is(16384, "reach", 1, 1, 1).is(0, "astray", 1, 1).is(2048, "reach", 0, 1, 1).is(14336, "reach", 0, 1, 0);
        // EXPIRED only: nothing is lost on the way
        Run y = new Run(21, "EXPIRED").house(1, "policy a { if kind = 3 { out 2 } else { out 1 } }");
        y.is(14336, "astray", 0, 0).is(2048, "reach", 0, 0, 0).is(0, "reach", 0, 0, 1);
    }

    /** 8 copies from switch 0 to 1, 7 of each of the first 7 there: 58 with the first one; then what LAST tells. */
    private static final String FLOOD = "{ if in 0 { (mark := 0|mark := 1|mark := 2|mark := 3|mark := 4|mark := 5|mark := 6|mark := 7); out 1 } else { "
            + "if mark = 0 .. 6 { (kind := 0|kind := 1|kind := 2|kind := 3|kind := 4|kind := 5|kind := 6); out 2 } else { (LAST); out 2 | out 3 } } }";

    private static void copies64() {
        Run x = new Run(19, "a packet has at most 64 copies").times(2, "addSwitch").call("addLink", 0, 1, 1, 1, 1);
        x.call("addHost", 0, 0).call("addHost", 1, 2).call("addHost", 1, 3);
        x.text("policy a " + FLOOD.replace("LAST", "kind := 0|kind := 1|kind := 2|kind := 3|kind := 4"));
        x.text("policy b " + FLOOD.replace("LAST", "kind := 0|kind := 1|kind := 2|kind := 3|kind := 4|kind := 5"));
        x.text("policy c " + FLOOD.replace("LAST", "pass|kind := 0|kind := 1|kind := 2|kind := 3|kind := 4"))
                .is(3, "load");
        x.is(16384, "reach", 0, 0, 2).is(0, "reach", 1, 0, 2).is(10240, "reach", 2, 0, 2);
        x.is(0, "avoids", 0, 0, 2, 0).is(0, "avoids", 0, 0, 2, 1).is(0, "avoids", 1, 0, 2, 0);
        x.is(0, "astray", 0, 0).is(16384, "astray", 1, 0).is(6144, "astray", 2, 0);
        x.is(0, "differsAt", 0, 1, 0).is(16384, "reach", 1, 0, 1).is(5 * 8, "differsAt", 0, 2, 0);
    }

    private static void avoids() {
        Run x = new Run(20, "a switch at which a copy was at no time")
                .house(2, "policy a { at 0 { out 1 | out 2 } | at 1, 2 { out 1 } }");
        x.is(0, "avoids", 0, 0, 2, 0).is(0, "avoids", 0, 0, 2, 1).is(0, "avoids", 0, 0, 2, 2);
        x.is(0, "avoids", 0, 0, 1, 0).is(16384, "avoids", 0, 0, 1, 1).is(16384, "avoids", 0, 0, 1, 2);
        x.is(0, "avoids", 0, 0, 0, 1).is(16384, "avoids", 0, 2, 2, 0).is(0, "avoids", 0, 2, 2, 2);
        // some copy: one goes there and back, the other one does not
        Run y = new Run(20, "some copy that is delivered there")
                .house(2, "policy a { at 0 { if in 1 { out 2 } else { if kind = 0 { out 1 | out 2 } else { out 1 } } } | at 1 { out 0 } }");
        y.is(16384, "reach", 0, 0, 1).is(2048, "avoids", 0, 0, 1, 1).is(16384, "avoids", 0, 0, 1, 2)
                .is(0, "avoids", 0, 0, 1, 0);
    }

    private static void strays() {
        Run x = new Run(21, "LOST at a port where nothing is")
                .house(2, "policy a { if mark = 0 .. 3 { out 3 | out 2 } else { out 2 } } policy b { at 0 { out 1 } | at 1 { if kind = 7 { out 5 } } }"
                + "policy c { at 0 { out 1 } | at 1 { drop } }");
        x.is(8192, "astray", 0, 0).is(16384, "reach", 0, 0, 1).is(2048, "astray", 1, 0).is(0, "astray", 2, 0)
                .is(16384, "astray", 0, 2).is(0, "astray", 1, 2);
    }

    private static void leastHeader() {
        Run x = new Run(22, "the least header, or NONE")
                .house(2, "policy a { out 2 } policy b { if from = 15 and to = 15 and kind = 7 and mark = 7 { drop } else { out 2 } }"
                + "policy c { if from = 0 and to = 0 and kind = 0 and mark = 0 { out 2 | out 0 } else { out 2 } } policy d { out 2 | out 3 | out 2 ; to := 1 ; drop } policy e { mark := 0 ; out 2 } policy f { drop }");
        x.is(16383, "differsAt", 0, 1, 0).is(16383, "differsAt", 1, 0, 0).is(0, "differsAt", 0, 2, 0)
                .is(0, "differsAt", 2, 0, 0);
        x.is(0, "differsAt", 1, 2, 0).is(NONE, "differsAt", 0, 3, 0).is(NONE, "differsAt", 3, 0, 0)
                .is(1, "differsAt", 0, 4, 0).is(1, "differsAt", 4, 0, 0);
        for (int policy = 0; policy < 6; policy++) {
            x.is(NONE, "differsAt", policy, policy, 0).is(NONE, "differsAt", policy, policy, 2);
        }
        x.is(0, "differsAt", 0, 5, 0).is(0, "differsAt", 5, 0, 0).is(NONE, "differsAt", 0, 5, 2);
    }

    private static void linksCountAsUp() {
        Run x = new Run(19, "with all links up, with a rule for all that it makes").house(2, "policy a { out 1 }")
                .call("setLink", 0, 0).call("setLink", 1, 0);
        x.is(16384, "reach", 0, 0, 2).is(0, "astray", 0, 0).call("update", 0, NONE, 0).call("settle")
                .call("restart", 0);
        x.is(16384, "reach", 0, 0, 2).is(16384, "avoids", 0, 2, 2, 0).is(NONE, "differsAt", 0, 0, 0);
    }
}
