/** Promises 44 to 48: counts and checks. */
public final class CountPromises {
    private static final Due DUE = new Due();
    private static final int NONE = FlowHouse.NONE;

    public static void main(String[] args) {
        count();
        countByPolicies();
        checks();
        means();
        fullTables();
        DUE.end("CountPromises");
    }

    private static void count() {
        FlowHouse x = Due.house(2, "policy a { out 1 | at 1 { out 0 } } policy b { if mark = 0 .. 3 { out 2 } else { out 1 } } slice s { any }");
        x.pass(3);
        Due.type(x, "abc");
        DUE.are(44, "count", x::count, 3, 3, 2, 3, 2, 1, 0, 0, 0, 0, 0, 0, 0, 0, 3, 0);
        x.update(0, NONE, 0);
        DUE.is(44, "updates", x.count(6), 1);
        DUE.is(44, "messages", x.count(13), 2 * 3);
        x.settle();
        x.send(0, 0);
        x.send(2, 0);
        DUE.are(44, "count", x::count, 3, 3, 2, 3, 2, 1, 1, 2, 4, 1, 1, 0, 0, 0, 3, 0);
        x.pass(9);
        DUE.are(44, "count", x::count, 12, 3, 2, 3, 2, 1, 1, 2, 6, 2, 1, 0, 0, 0, 3, 0);
        x.restart(0);
        x.restart(1);
        x.restart(0);
        DUE.is(44, "restarts", x.count(15), 3);
        DUE.noArgument(44, "what 16", () -> x.count(16));
        DUE.noArgument(44, "what -1", () -> x.count(-1));
        DUE.noArgument(44, "what MAX", () -> x.count(Integer.MAX_VALUE));
    }

    private static void countByPolicies() {
        FlowHouse x = new FlowHouse();
        x.build(2);
        x.send(0, 0);
        DUE.is(44, "all, without a policy", x.count(11), 1);
        DUE.is(44, "without a policy something is missing", x.count(12), 1);
        Due.type(x, "policy a { out 1 } policy b { at 0 { out 0 } | at 1 { out 0 | out 1 } | at 2 { out 1 } }");
        x.load();
        DUE.is(44, "nothing was handled", x.count(11), 0);
        x.update(0, NONE, 0);
        x.settle();
        x.send(0, 0);
        x.send(0, 0);
        x.pass(1);
        x.update(1, NONE, 1);
        x.settle();
        x.send(0, 0);
        DUE.is(44, "so far", x.count(11), 0);
        x.pass(10);
        DUE.is(44, "by neither", x.count(11), 2);
        DUE.is(44, "missing", x.count(12), 3);
        DUE.is(45, "an update in mode 1 was begun", x.isConsistent(), true);
    }

    private static void checks() {
        FlowHouse x = Due.house(1, "policy a { out 1 | if to = 1 { out 2 } } policy b { if mark = 0 .. 3 { out 2 } else { out 1 } } slice s { mark = 1 .. 5 }");
        for (int i = 0; i < 4; i++) {
            int update = x.update(i % 2, i % 3 == 1 ? 0 : NONE, 0);
            for (int step = 0; step < 10; step++) {
                x.deliver(step % 4, 7 * step + i);
                x.deliver(step % 3, 3 * step);
                x.answer(step);
                x.send((step + i) % 4, step * 37 % 16384);
                x.pass(1);
                if (step == 3 * i) {
                    x.restart(i % 4);
                }
                if (step == 5 && i == 2) {
                    x.stop();
                    x.start();
                }
                x.setLink(step % 4, step % 5 > 0);
                DUE.is(45, "isConsistent()", x.isConsistent(), true);
                DUE.is(46, "errors()", x.errors(), 0);
            }
            x.settle();
            x.pass(109);
            x.settle();
            DUE.is(45, "ended", x.updateAt(update, 4), FlowHouse.ENDED);
        }
    }

    private static void means() {
        FlowHouse x = new FlowHouse();
        DUE.isReal(48, "no switch", x.meanRules(), 0.0f);
        DUE.isReal(47, "no copy", x.deliveredShare(), 0.0);
        x.build(2);
        DUE.isReal(48, "no rules", x.meanRules(), 0.0f);
        Due.type(x, "policy a { at 0 { if in 0 { out 2 } else { out 0 | out 1 } } | at 1 { out 4 } }");
        x.load();
        x.update(0, NONE, 0);
        x.settle();
        int rules = x.rules(0, 0) + 1;
        DUE.isReal(48, "meanRules()", x.meanRules(), (float) rules / 3.0f);
        x.send(0, 0);
        DUE.isReal(47, "deliveredShare()", x.deliveredShare(), 0.5);
        x.send(1, 0);
        DUE.isReal(47, "deliveredShare()", x.deliveredShare(), 2.0 / 5.0);
        x.pass(9);
        DUE.isReal(47, "deliveredShare()", x.deliveredShare(), 2.0 / 6.0);
        x.restart(1);
        DUE.isReal(48, "meanRules()", x.meanRules(), (float) (rules - 1) / 3.0f);
    }

    private static void fullTables() {
        FlowHouse x = Due.house(2, "policy big { if kind = 1 or kind = 2 or kind = 4 or kind = 7 { "
                + "if mark = 1 or mark = 2 or mark = 4 or mark = 7 { out 1 } else { out 2 } } else { "
                + "if mark = 2 or mark = 4 or mark = 7 { out 1 } else { out 2 } } } policy a { out 1 }");
        x.update(1, NONE, 0);
        x.settle();
        x.update(0, NONE, 0);
        for (int i = 0; i < 61; i++) {
            x.deliver(0, i);
        }
        DUE.is(46, "a full table", x.errors(), 0);
        DUE.is(45, "rules of a tag that is being added", x.isConsistent(), true);
        DUE.isReal(48, "meanRules()", x.meanRules(), 42.0f / 3.0f);
        x.deliver(1, 0);
        x.settle();
        DUE.is(45, "cleared", x.isConsistent(), true);
        DUE.isReal(48, "meanRules()", x.meanRules(), 1.0f);
    }
}
