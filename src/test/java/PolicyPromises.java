/** Promises 15 to 22: what can be asked of policies and slices. */
public final class PolicyPromises {
    private static final Due DUE = new Due();
    private static final int NONE = FlowHouse.NONE;

    public static void main(String[] args) {
        rules();
        orderOfRules();
        actions();
        cards();
        has();
        reach();
        avoids();
        astray();
        differsAt();
        DUE.end("PolicyPromises");
    }

    private static FlowHouse store(String text) {
        FlowHouse x = new FlowHouse();
        Due.type(x, text);
        x.load();
        return x;
    }

    /** The rules of policy 0 for a switch: mask, value and actions of each. */
    private static void rulesAre(FlowHouse x, int at, int... due) {
        DUE.is(16, "rules(0, " + at + ")", x.rules(0, at), due.length / 3);
        for (int i = 0; i < due.length && i / 3 < x.rules(0, at); i++) {
            DUE.is(15, "ruleAt(0, " + at + ", " + i / 3 + ", " + i % 3 + ")", x.ruleAt(0, at, i / 3, i % 3), due[i]);
        }
    }

    private static void rules() {
        FlowHouse x = store("policy a { at 1, 7 { if to = 4 .. 7 { out 1 | out 2 } else { out 3 } } | at 2 { out 0 } }");
        int to = 1 << 6;
        rulesAre(x, 0);
        rulesAre(x, 1, 12 * to, 0, 1, 12 * to, 4 * to, 2, 8 * to, 8 * to, 1);
        DUE.is(16, "rules(0, 7)", x.rules(0, 7), 3);
        rulesAre(x, 2, 0, 0, 1);
        DUE.noIndex(15, "no such policy", () -> x.ruleAt(1, 1, 0, 0));
        DUE.noIndex(15, "policy -1", () -> x.ruleAt(-1, 1, 0, 0));
        DUE.noIndex(15, "switch 8", () -> x.ruleAt(0, 8, 0, 0));
        DUE.noIndex(15, "switch -1", () -> x.ruleAt(0, -1, 0, 0));
        DUE.noIndex(15, "no such rule", () -> x.ruleAt(0, 1, 3, 0));
        DUE.noIndex(15, "rule -1", () -> x.ruleAt(0, 1, -1, 0));
        DUE.noIndex(15, "no such rule goes ahead", () -> x.ruleAt(0, 0, 0, 3));
        DUE.noArgument(15, "what 3", () -> x.ruleAt(0, 1, 0, 3));
        DUE.noArgument(15, "what -1", () -> x.ruleAt(0, 1, 0, -1));
        DUE.noIndex(16, "no such policy", () -> x.rules(1, 0));
        DUE.noIndex(16, "switch 8", () -> x.rules(0, 8));
        DUE.noIndex(16, "switch -1", () -> x.rules(0, -1));
        DUE.noIndex(16, "policy MIN", () -> x.rules(Integer.MIN_VALUE, 0));
    }

    private static void orderOfRules() {
        // bits in order: the port, from, to, kind, mark
        rulesAre(store("policy a { if mark = 1 and in 4 { out 1 } }"), 0, 7 * 16384 + 7, 4 * 16384 + 1, 1);
        rulesAre(store("policy a { if from = 8 .. 15 { out 1 } else { if kind = 4 .. 7 { out 2 } } }"), 3,
                8 * 1024 + 32, 32, 1, 8 * 1024, 8 * 1024, 1);
        // the ports 6 and 7 count, too: not in 0 .. 5
        rulesAre(store("policy a { if not (in 0 or in 1 or in 2 or in 3 or in 4 or in 5) { out 1 } }"), 0,
                6 * 16384, 6 * 16384, 1);
        rulesAre(store("policy a { if in 4 or in 5 { out 1 } else { out 2 } }"), 0,
                4 * 16384, 0, 1, 6 * 16384, 4 * 16384, 1, 6 * 16384, 6 * 16384, 1);
        // a bit on which nothing depends in the end is not taken
        rulesAre(store("policy a { if from = 3 { out 1 } else { out 1 } }"), 0, 0, 0, 1);
        rulesAre(store("policy a { if from = 3 { pass } else { to := 2 } }"), 0);
        rulesAre(store("policy a { if from = 8 .. 15 and mark = 4 .. 7 or from = 0 .. 7 and mark = 4 .. 7 { out 1 } }"), 0, 4, 4, 1);
        // writing the value that is there already is another action than writing nothing
        rulesAre(store("policy a { if mark = 4 .. 7 { out 1 } else { mark := 4; out 1 } }"), 0, 4, 0, 1, 4, 4, 1);
        // all 8 marks
        rulesAre(store("policy a { if mark = 1 or mark = 2 or mark = 4 or mark = 7 { out 1 } else { out 2 } }"), 0,
                7, 0, 1, 7, 1, 1, 7, 2, 1, 7, 3, 1, 7, 4, 1, 7, 5, 1, 7, 6, 1, 7, 7, 1);
    }

    private static void actionIs(FlowHouse x, int row, int index, int... due) {
        DUE.are(17, "actionAt(0, 0, " + row + ", " + index + ")", i -> x.actionAt(0, 0, row, index, i), due);
    }

    private static void actions() {
        FlowHouse x = store("policy a { if to = 3 { mark := 7; kind := 0; out 2 | out 2 | from := 0; out 2 | to := 15; out 0 "
                + "| mark := 1; out 2 | from := 15; out 2 | kind := 0; out 2 } }");
        int row = 5 * 16384 + Due.header(9, 3, 4, 5);
        actionIs(x, row, 0, 0, NONE, 15, NONE, NONE);
        actionIs(x, row, 1, 2, NONE, NONE, NONE, NONE);
        actionIs(x, row, 2, 2, NONE, NONE, NONE, 1);
        actionIs(x, row, 3, 2, NONE, NONE, 0, NONE);
        actionIs(x, row, 4, 2, NONE, NONE, 0, 7);
        actionIs(x, row, 5, 2, 0, NONE, NONE, NONE);
        actionIs(x, row, 6, 2, 15, NONE, NONE, NONE);
        DUE.noElement(17, "no 8th action", () -> x.actionAt(0, 0, row, 7, 0));
        DUE.noElement(17, "action -1", () -> x.actionAt(0, 0, row, -1, 0));
        DUE.noElement(17, "a row without actions", () -> x.actionAt(0, 0, 0, 0, 0));
        DUE.is(17, "another switch", x.actionAt(0, 7, row, 0, 0), 0);
        DUE.noIndex(17, "switch 8", () -> x.actionAt(0, 8, row, 0, 0));
        DUE.noIndex(17, "switch -1", () -> x.actionAt(0, -1, row, 0, 0));
        DUE.noIndex(17, "policy 1", () -> x.actionAt(1, 0, -1, 0, 0));
        DUE.noArgument(17, "row 131072", () -> x.actionAt(0, 0, 131072, 0, 0));
        DUE.noArgument(17, "row -1", () -> x.actionAt(0, 0, -1, 9, 0));
        DUE.noArgument(17, "what 5", () -> x.actionAt(0, 0, row, 9, 5));
        DUE.noArgument(17, "what -1", () -> x.actionAt(0, 0, row, 0, -1));
        FlowHouse y = store("policy a { if not (in 0 or in 1 or in 2 or in 3 or in 4 or in 5) { out 4 } }");
        DUE.is(17, "the port 7", y.actionAt(0, 0, 131071, 0, 0), 4);
    }

    private static void cards() {
        int row = Due.header(1, 2, 3, 4);
        actionIs(store("policy a { out 1 ; out 2 }"), row, 0, 2, NONE, NONE, NONE, NONE);
        actionIs(store("policy a { mark := 1 ; mark := 2 ; out 2 }"), row, 0, 2, NONE, NONE, NONE, 2);
        actionIs(store("policy a { out 2 ; from := 5 }"), row, 0, 2, 5, NONE, NONE, NONE);
        // a test looks at the card as it is then
        actionIs(store("policy a { from := 5 ; if from = 5 { out 3 } else { out 4 } }"), row, 0, 3, 5, NONE, NONE, NONE);
        actionIs(store("policy a { from := 5 ; if from = 1 { out 3 } else { out 4 } }"), row, 0, 4, 5, NONE, NONE, NONE);
        actionIs(store("policy a { out 1 ; if in 0 { out 2 } }"), row, 0, 2, NONE, NONE, NONE, NONE);
        actionIs(store("policy a { out 1 ; if in 1 { out 2 } else { pass } }"), row, 0, 1, NONE, NONE, NONE, NONE);
        FlowHouse both = store("policy a { (from := 5 | pass) ; if from = 5 { out 3 } else { out 4 } }");
        actionIs(both, row, 0, 3, 5, NONE, NONE, NONE);
        actionIs(both, row, 1, 4, NONE, NONE, NONE, NONE);
        DUE.noElement(17, "pass alone", () -> store("policy a { pass }").actionAt(0, 0, row, 0, 0));
        DUE.noElement(17, "drop", () -> store("policy a { drop ; out 1 }").actionAt(0, 0, row, 0, 0));
        DUE.noElement(17, "drop behind", () -> store("policy a { out 1 ; drop }").actionAt(0, 0, row, 0, 0));
        DUE.noElement(17, "if without else", () -> store("policy a { if from = 2 { pass } ; out 1 }").actionAt(0, 0, row, 0, 0));
        DUE.noElement(17, "at", () -> store("policy a { at 1 { pass } ; out 1 }").actionAt(0, 0, row, 0, 0));
        FlowHouse same = store("policy a { out 1 | out 1 | (out 2 ; out 1) | mark := 1 ; out 1 | drop }");
        DUE.is(15, "cards that are the same", same.ruleAt(0, 0, 0, 2), 2);
        // tests
        String[] tests = {"any", "not any", "from = 1", "from = 2", "to = 2 .. 3", "to = 0 .. 1", "to = 3 .. 15", "in 0", "in 1",
            "from = 1 and to = 2", "from = 1 and to = 3", "from = 2 or to = 2", "from = 2 or to = 3", "any or any and not any",
            "(any or any) and not any", "not from = 2 and kind = 3", "not (from = 2 or kind = 3)", "not not mark = 4", "mark = 4 .. 4"};
        int[] due = {1, 0, 1, 0, 1, 0, 0, 1, 0, 1, 0, 1, 0, 1, 0, 1, 0, 1, 1};
        for (int i = 0; i < tests.length; i++) {
            FlowHouse x = store("policy a { if " + tests[i] + " { out 1 } else { out 0 } }");
            DUE.is(17, "the test " + tests[i], x.actionAt(0, 0, row, 0, 0), due[i]);
        }
    }

    private static void has() {
        String slices = "slice a { from = 0 .. 3 and not to = 2 or mark = 7 } slice b { not any } slice c { (not kind = 0 .. 1 and kind = 0 .. 5) and (mark = 1 or mark = 3 or not any) }";
        FlowHouse x = store(slices);
        DUE.is(18, "from 3", x.has(0, Due.header(3, 1, 0, 0)), true);
        DUE.is(18, "from 4", x.has(0, Due.header(4, 1, 0, 0)), false);
        DUE.is(18, "to 2", x.has(0, Due.header(3, 2, 0, 0)), false);
        DUE.is(18, "mark 7", x.has(0, Due.header(15, 2, 0, 7)), true);
        DUE.is(18, "not any", x.has(1, 0), false);
        int sum = 0;
        FlowHouse each = x;
        for (int header = 0; header < 16384; header++) {
            // an object is used for at most 512 calls
            each = header % 256 == 0 ? store(slices) : each;
            sum += each.has(2, header) ? 1 : 0;
        }
        DUE.is(18, "headers of slice c", sum, 2048);
        DUE.is(18, "mark 3", x.has(2, Due.header(0, 0, 5, 3)), true);
        DUE.is(18, "mark 2", x.has(2, Due.header(0, 0, 5, 2)), false);
        DUE.is(18, "kind 6", x.has(2, Due.header(0, 0, 6, 3)), false);
        DUE.noIndex(18, "slice 3", () -> x.has(3, 0));
        DUE.noIndex(18, "slice -1", () -> x.has(-1, 16384));
        DUE.noArgument(18, "header 16384", () -> x.has(0, 16384));
        DUE.noArgument(18, "header -1", () -> x.has(0, -1));
    }

    private static void reach() {
        FlowHouse x = new FlowHouse();
        x.build(0);
        x.piece(0);
        x.load();
        // by up, host 0 sends what goes to 1 and 2 over switch 1; all else ends at host 3
        DUE.is(19, "up, 0 to 0", x.reach(0, 0, 0), 0);
        DUE.is(19, "up, 0 to 1", x.reach(0, 0, 1), 1024);
        DUE.is(19, "up, 0 to 2", x.reach(0, 0, 2), 1024);
        DUE.is(19, "up, 0 to 3", x.reach(0, 0, 3), 14 * 1024);
        DUE.noIndex(19, "policy 1", () -> x.reach(1, 0, 0));
        DUE.noIndex(19, "policy -1", () -> x.reach(-1, 0, 0));
        DUE.noIndex(19, "host 4", () -> x.reach(0, 4, 0));
        DUE.noIndex(19, "host -1", () -> x.reach(0, 0, -1));
        x.setLink(0, false);
        x.setLink(1, false);
        DUE.is(19, "all links count as up", x.reach(0, 0, 1), 1024);
        // a copy that comes back, and one that is written
        FlowHouse y = Due.house(2, "policy a { at 0 { if in 0 { mark := 3; out 1 } else { out 0 } } | at 1 { if in 0 { if mark = 3 { out 0 } } } }"
                + "policy b { at 0 { out 2 | if kind = 0 .. 1 { out 2 ; mark := 1 } } } policy c { at 0 { out 0 } }");
        DUE.is(19, "there and back", y.reach(0, 0, 0), 16384);
        DUE.is(19, "not further", y.reach(0, 0, 2), 0);
        DUE.is(19, "twice counts once", y.reach(1, 0, 1), 16384);
        DUE.is(19, "a host to itself", y.reach(2, 0, 0), 16384);
        // 64 copies: the 64th one is made, no further one
        FlowHouse z = Due.house(1, "policy a { out 0 | out 1 | mark := 1; (out 0 | out 1) | kind := 1 ; out 0 } policy b { at 0 { out 1 } | at 1 { out 2 } }");
        DUE.is(19, "no copy at a host", z.reach(0, 0, 1), 0);
        DUE.is(19, "one", z.reach(1, 0, 1), 16384);
        FlowHouse w = Due.house(1, ROUNDS.replace("ENOUGH", "out 2") + ROUNDS.replace("a {", "b {").replace("ENOUGH", "mark := 4; out 1"));
        DUE.is(19, "12 links", w.reach(0, 0, 0), 16384);
        DUE.is(19, "13 links", w.reach(1, 0, 1), 0);
    }

    /** On the ring, from host 0: marks how often a copy comes back to switch 0; the third time by 12 links. */
    private static final String ROUNDS = "policy a { at 0 { if in 2 { mark := 1; out 1 } else { if mark = 1 { mark := 2; out 1 } else "
            + "{ if mark = 2 { mark := 3; out 1 } else { ENOUGH } } } } | at 1 { if mark = 4 { out 2 } else { out 1 } } | at 2, 3 { out 1 } } ";

    private static void avoids() {
        FlowHouse x = new FlowHouse();
        x.build(0);
        x.piece(0);
        x.piece(1);
        x.load();
        DUE.is(20, "up past 1", x.avoids(0, 0, 1, 1), 0);
        DUE.is(20, "up past 2", x.avoids(0, 0, 1, 2), 1024);
        DUE.is(20, "low past 1", x.avoids(1, 0, 1, 1), 1024);
        DUE.is(20, "low past 2", x.avoids(1, 0, 1, 2), 0);
        DUE.is(20, "up past 0, where it begins", x.avoids(0, 0, 1, 0), 0);
        DUE.is(20, "up past 3, where it ends", x.avoids(0, 0, 1, 3), 0);
        DUE.noIndex(20, "policy 2", () -> x.avoids(2, 0, 1, 1));
        DUE.noIndex(20, "host 4", () -> x.avoids(0, 4, 1, 1));
        DUE.noIndex(20, "host -1", () -> x.avoids(0, 0, -1, 1));
        DUE.noIndex(20, "switch 4", () -> x.avoids(0, 0, 1, 4));
        DUE.noIndex(20, "switch -1", () -> x.avoids(0, 0, 1, -1));
        // some copy suffices; a switch at which only another copy was does not matter
        FlowHouse y = Due.house(0, "policy a { at 0 { out 1 | out 2 } | at 1 { out 1 } | at 2 { if mark = 0 { out 1 } } | at 3 { out 2 } }");
        DUE.is(20, "two ways past 1", y.avoids(0, 0, 1, 1), 2048);
        DUE.is(20, "two ways past 2", y.avoids(0, 0, 1, 2), 16384);
        DUE.is(20, "not delivered", y.avoids(0, 0, 2, 1), 0);
    }

    private static void astray() {
        FlowHouse x = Due.house(2, "policy a { out 1 } policy b { if in 0 { if kind = 3 { out 5 } else { out 0 } } } policy c { drop }"
                + "policy d { out 0 | out 1 | mark := 1; (out 0 | out 1) | mark := 2; (out 0 | out 1) | mark := 3; (out 0 | out 1) }");
        DUE.is(21, "delivered", x.astray(0, 0), 0);
        DUE.is(21, "lost", x.astray(1, 0), 2048);
        DUE.is(21, "dropped", x.astray(2, 0), 0);
        DUE.is(21, "cut short", x.astray(3, 0), 16384);
        DUE.noIndex(21, "policy 4", () -> x.astray(4, 0));
        DUE.noIndex(21, "host 3", () -> x.astray(0, 3));
        DUE.noIndex(21, "host -1", () -> x.astray(0, -1));
        FlowHouse y = Due.house(1, "policy r { if kind = 1 { drop } else { out 1 } }" + ROUNDS.replace("ENOUGH", "out 2")
                + ROUNDS.replace("a {", "b {").replace("ENOUGH", "mark := 4; out 1"));
        DUE.is(21, "expired", y.astray(0, 0), 14336);
        DUE.is(21, "12 links and out", y.astray(1, 0), 0);
        DUE.is(21, "13 links", y.astray(2, 0), 16384);
        // just 64 copies: 1, 7 of it, 8 of each of these
        String text = "policy a { (mark := 0 | mark := 1 | mark := 2 | mark := 3 | mark := 4 | mark := 5 | mark := 6 | LAST);"
                + "if in 0 { out 2 } else { out 1 } }";
        DUE.is(21, "64 copies", Due.house(1, text.replace("LAST", "if in 0 { mark := 7 }")).astray(0, 0), 0);
        DUE.is(21, "65 copies", Due.house(1, text.replace("LAST", "if in 2 { mark := 7 }")).astray(0, 0), 16384);
        DUE.is(21, "73 copies", Due.house(1, text.replace("LAST", "mark := 7")).astray(0, 0), 16384);
        // actions that make the same copy make one: only with the mark 7 there are 8 at first
        DUE.is(21, "some make the same", Due.house(1, text.replace("LAST", "if in 0 { mark := 7 } else { pass }")).astray(0, 0), 2048);
    }

    private static void differsAt() {
        FlowHouse x = Due.house(2, "policy a { out 1 } policy b { if to = 5 and mark = 2 .. 3 { drop } else { out 1 } } policy c { at 2 { mark := 7 } ; out 1 | at 0, 1 { out 1 } }"
                + "policy d { at 0 { out 1 | out 2 } | at 1, 2 { out 1 } } policy e { out 1 | at 2 { out 1 ; out 1 } } policy f { at 2 { if mark = 0 .. 6 { out 1 } else { mark := 7 ; out 1 } } | at 0, 1 { out 1 } }");
        DUE.is(22, "the same", x.differsAt(0, 0, 0), NONE);
        DUE.is(22, "one drops", x.differsAt(0, 1, 0), Due.header(0, 5, 0, 2));
        DUE.is(22, "the other one drops", x.differsAt(1, 0, 0), Due.header(0, 5, 0, 2));
        DUE.is(22, "another header is delivered", x.differsAt(0, 2, 0), 0);
        DUE.is(22, "also to another host", x.differsAt(0, 3, 0), 0);
        DUE.is(22, "also to another host", x.differsAt(3, 0, 0), 0);
        DUE.is(22, "how often does not matter", x.differsAt(0, 4, 0), NONE);
        DUE.is(22, "the value that is there is written", x.differsAt(0, 5, 0), NONE);
        DUE.is(22, "of host 2", x.differsAt(0, 1, 2), Due.header(0, 5, 0, 2));
        DUE.noIndex(22, "policy 6", () -> x.differsAt(6, 0, 0));
        DUE.noIndex(22, "other policy 6", () -> x.differsAt(0, 6, 0));
        DUE.noIndex(22, "other policy -1", () -> x.differsAt(0, -1, 0));
        DUE.noIndex(22, "host 3", () -> x.differsAt(0, 0, 3));
        FlowHouse y = Due.house(2, "policy a { out 2 } policy b { mark := 3 ; out 2 } policy c { if not from = 0 .. 14 { drop } else { out 2 } }");
        DUE.is(22, "mark 3 alone is the same", y.differsAt(0, 1, 0), 0);
        DUE.is(22, "the least header", y.differsAt(0, 2, 0), Due.header(15, 0, 0, 0));
        FlowHouse z = Due.house(2, "policy a { out 2 } policy b { if mark = 0 .. 4 { out 2 } else { mark := 5 ; out 2 } } policy c { out 2 | mark := 0 ; out 2 }");
        DUE.is(22, "from mark 6 on", z.differsAt(0, 1, 0), 6);
        DUE.is(22, "from mark 1 on", z.differsAt(0, 2, 0), 1);
        DUE.is(22, "from mark 1 on", z.differsAt(2, 0, 0), 1);
    }
}
