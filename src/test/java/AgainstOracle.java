import java.util.ArrayList;
import java.util.List;
import java.util.NoSuchElementException;
import java.util.Random;
import java.util.Set;

/**
 * Makes random calls on a FlowHouse and on the Oracle, and prints the first call of each run whose answers differ.
 * Arguments: the first seed, and how many runs; without them a small fixed number, for the CI.
 */
public final class AgainstOracle {
    private static int wrong;

    interface Call {
        Object ask();
    }

    static Object outcome(Call call) {
        try {
            return call.ask();
        } catch (IllegalStateException | IllegalArgumentException | NoSuchElementException e) {
            return "throws " + e.getClass().getSimpleName();
        } catch (IndexOutOfBoundsException e) {
            return e.getClass() == IndexOutOfBoundsException.class ? "throws IndexOutOfBoundsException" : "machine: " + e;
        }
    }

    /** An object is used for so many calls; behind them, all that changed it is done once more on a new one. */
    private static final int MOST_CALLS = 512, MOST_CHANGES = 400;
    private static final Set<String> CHANGING = Set.of("addSwitch", "addLink", "addHost", "build", "setLink", "restart",
            "type", "piece", "clearText", "load", "update", "cancel", "stop", "start", "deliver", "answer", "settle",
            "send", "pass");

    final Random random;
    FlowHouse house = new FlowHouse();
    final Oracle oracle = new Oracle();
    final List<Call> changes = new ArrayList<>();
    final StringBuilder log = new StringBuilder();
    boolean failed;
    int callsOfHouse;
    int calls;

    AgainstOracle(long seed) {
        random = new Random(seed);
    }

    boolean same(String call, Call onHouse, Call onOracle) {
        if (callsOfHouse == MOST_CALLS) {
            makeAgain();
        }
        calls++;
        callsOfHouse++;
        Object got = outcome(onHouse);
        Object due = outcome(onOracle);
        log.append(call).append(" = ").append(due).append('\n');
        if (!got.equals(due)) {
            failed = true;
            log.append("   but answered ").append(got).append('\n');
        }
        // a call that throws changes nothing, so it need not be done once more
        if (CHANGING.contains(call.substring(0, call.indexOf('('))) && !due.toString().startsWith("throws")) {
            changes.add(onHouse);
        }
        return !failed;
    }

    private void makeAgain() {
        house = new FlowHouse();
        changes.forEach(Call::ask);
        callsOfHouse = changes.size();
    }

    boolean goesOn() {
        return !failed && changes.size() < MOST_CHANGES;
    }

    int pick(int limit) {
        return random.nextInt(limit);
    }

    /** A number from 0 to most; now and then one that is out of range. */
    int some(int most) {
        switch (pick(60)) {
            case 0:
                return -1;
            case 1:
                return most + 1;
            case 2:
                return pick(2) == 0 ? Integer.MIN_VALUE : Integer.MAX_VALUE;
            case 3:
                return -2 - pick(5);
            default:
                return most < 0 ? 0 : pick(most + 1);
        }
    }

    int header() {
        if (pick(40) == 0) {
            return some(16383);
        }
        return ((pick(4) * 16 + pick(5)) * 8 + pick(4)) * 8 + pick(8);
    }

    // ---- calls

    void type(String words) {
        byte[] bytes = words.getBytes(java.nio.charset.StandardCharsets.ISO_8859_1);
        for (int i = 0; i < bytes.length && !failed;) {
            long[] six = new long[6];
            for (int j = 0; j < 48; j++) {
                boolean skip = pick(30) == 0;
                long b = skip || i >= bytes.length ? 0 : bytes[i++] & 255;
                six[j / 8] = six[j / 8] << 8 | b;
            }
            same("type(" + six[0] + ", " + six[1] + ", " + six[2] + ", " + six[3] + ", " + six[4] + ", " + six[5] + ")",
                    () -> house.type(six[0], six[1], six[2], six[3], six[4], six[5]),
                    () -> oracle.type(six[0], six[1], six[2], six[3], six[4], six[5]));
        }
    }

    boolean addSwitch() {
        return same("addSwitch()", () -> house.addSwitch(), () -> oracle.addSwitch());
    }

    boolean addLink(int a, int b, int c, int d, int e) {
        return same("addLink(" + a + ", " + b + ", " + c + ", " + d + ", " + e + ")",
                () -> house.addLink(a, b, c, d, e), () -> oracle.addLink(a, b, c, d, e));
    }

    boolean addHost(int a, int b) {
        return same("addHost(" + a + ", " + b + ")", () -> house.addHost(a, b), () -> oracle.addHost(a, b));
    }

    boolean build(int a) {
        return same("build(" + a + ")", () -> house.build(a), () -> oracle.build(a));
    }

    boolean setLink(int a, boolean b) {
        return same("setLink(" + a + ", " + b + ")", () -> house.setLink(a, b), () -> oracle.setLink(a, b));
    }

    boolean restart(int a) {
        return same("restart(" + a + ")", () -> house.restart(a), () -> oracle.restart(a));
    }

    boolean portAt(int a, int b) {
        return same("portAt(" + a + ", " + b + ")", () -> house.portAt(a, b), () -> oracle.portAt(a, b));
    }

    boolean piece(int a) {
        return same("piece(" + a + ")", () -> house.piece(a), () -> oracle.piece(a));
    }

    boolean clearText() {
        return same("clearText()", () -> house.clearText(), () -> oracle.clearText());
    }

    boolean errors() {
        return same("errorKind()", () -> house.errorKind(), () -> oracle.errorKind())
                && same("errorPlace()", () -> house.errorPlace(), () -> oracle.errorPlace());
    }

    boolean load() {
        return same("load()", () -> house.load(), () -> oracle.load());
    }

    boolean ruleAt(int a, int b, int c, int d) {
        return same("ruleAt(" + a + ", " + b + ", " + c + ", " + d + ")",
                () -> house.ruleAt(a, b, c, d), () -> oracle.ruleAt(a, b, c, d));
    }

    boolean rules(int a, int b) {
        return same("rules(" + a + ", " + b + ")", () -> house.rules(a, b), () -> oracle.rules(a, b));
    }

    boolean actionAt(int a, int b, int c, int d, int e) {
        return same("actionAt(" + a + ", " + b + ", " + c + ", " + d + ", " + e + ")",
                () -> house.actionAt(a, b, c, d, e), () -> oracle.actionAt(a, b, c, d, e));
    }

    boolean has(int a, int b) {
        return same("has(" + a + ", " + b + ")", () -> house.has(a, b), () -> oracle.has(a, b));
    }

    boolean walks(int kind, int a, int b, int c, int d) {
        switch (kind) {
            case 0:
                return same("reach(" + a + ", " + b + ", " + c + ")",
                        () -> house.reach(a, b, c), () -> oracle.reach(a, b, c));
            case 1:
                return same("avoids(" + a + ", " + b + ", " + c + ", " + d + ")",
                        () -> house.avoids(a, b, c, d), () -> oracle.avoids(a, b, c, d));
            case 2:
                return same("astray(" + a + ", " + b + ")",
                        () -> house.astray(a, b), () -> oracle.astray(a, b));
            default:
                return same("differsAt(" + a + ", " + d + ", " + b + ")",
                        () -> house.differsAt(a, d, b), () -> oracle.differsAt(a, d, b));
        }
    }

    boolean update(int a, int b, int c) {
        return same("update(" + a + ", " + b + ", " + c + ")",
                () -> house.update(a, b, c), () -> oracle.update(a, b, c));
    }

    boolean cancel() {
        return same("cancel()", () -> house.cancel(), () -> oracle.cancel());
    }

    boolean stop() {
        return same("stop()", () -> house.stop(), () -> oracle.stop());
    }

    boolean start() {
        return same("start()", () -> house.start(), () -> oracle.start());
    }

    boolean deliver(int a, int b) {
        return same("deliver(" + a + ", " + b + ")", () -> house.deliver(a, b), () -> oracle.deliver(a, b));
    }

    boolean answer(int a) {
        return same("answer(" + a + ")", () -> house.answer(a), () -> oracle.answer(a));
    }

    boolean settle() {
        return same("settle()", () -> house.settle(), () -> oracle.settle());
    }

    boolean send(int a, int b) {
        return same("send(" + a + ", " + b + ")", () -> house.send(a, b), () -> oracle.send(a, b));
    }

    boolean pass(int a) {
        return same("pass(" + a + ")", () -> house.pass(a), () -> oracle.pass(a));
    }

    boolean told(String name, int a, int b) {
        switch (name) {
            case "updateAt":
                return same(name + "(" + a + ", " + b + ")", () -> house.updateAt(a, b), () -> oracle.updateAt(a, b));
            case "answerAt":
                return same(name + "(" + a + ", " + b + ")", () -> house.answerAt(a, b), () -> oracle.answerAt(a, b));
            case "switchAt":
                return same(name + "(" + a + ", " + b + ")", () -> house.switchAt(a, b), () -> oracle.switchAt(a, b));
            case "packetAt":
                return same(name + "(" + a + ", " + b + ")", () -> house.packetAt(a, b), () -> oracle.packetAt(a, b));
            case "isBy":
                return same(name + "(" + a + ", " + b + ")", () -> house.isBy(a, b), () -> oracle.isBy(a, b));
            case "isWhole":
                return same(name + "(" + a + ")", () -> house.isWhole(a), () -> oracle.isWhole(a));
            case "controllerAt":
                return same(name + "(" + a + ")", () -> house.controllerAt(a), () -> oracle.controllerAt(a));
            default:
                return same("count(" + a + ")", () -> house.count(a), () -> oracle.count(a));
        }
    }

    boolean told(String name, int a, int b, int c) {
        String call = name + "(" + a + ", " + b + ", " + c + ")";
        switch (name) {
            case "messageAt":
                return same(call, () -> house.messageAt(a, b, c), () -> oracle.messageAt(a, b, c));
            case "tableAt":
                return same(call, () -> house.tableAt(a, b, c), () -> oracle.tableAt(a, b, c));
            case "stampAt":
                return same(call, () -> house.stampAt(a, b, c), () -> oracle.stampAt(a, b, c));
            case "copyAt":
                return same(call, () -> house.copyAt(a, b, c), () -> oracle.copyAt(a, b, c));
            default:
                return same(call, () -> house.deliveredAt(a, b, c), () -> oracle.deliveredAt(a, b, c));
        }
    }

    // ---- all that can be asked, at the end of a run and now and then

    void compareAll() {
        for (int i = 0; i < 16 && !failed; i++) {
            told("count", i, 0);
        }
        for (int i = 0; i < 9 && !failed; i++) {
            told("controllerAt", i, 0);
        }
        for (int i = 0; i < oracle.updates.size() * 7 && !failed; i++) {
            told("updateAt", i / 7, i % 7);
        }
        for (int i = 0; i < oracle.answers.size() * 4 && !failed; i++) {
            told("answerAt", i / 4, i % 4);
        }
        for (int at = 0; at < oracle.switches.size() && !failed; at++) {
            for (int i = 0; i < 5; i++) {
                told("switchAt", at, i);
            }
            for (int i = 0; i < oracle.switches.get(at).table.size() * 5 && !failed; i++) {
                told("tableAt", at, i / 5, i % 5);
            }
            for (int i = 0; i < oracle.switches.get(at).stamps.size() * 3 && !failed; i++) {
                told("stampAt", at, i / 3, i % 3);
            }
            for (int i = 0; i < oracle.switches.get(at).inbox.size() * 4 && !failed; i++) {
                told("messageAt", at, i / 4, i % 4);
            }
        }
        for (int p = 0; p < oracle.packets.size() && !failed; p++) {
            for (int i = 0; i < 9; i++) {
                told("packetAt", p, i);
            }
            for (int i = 0; i < oracle.packets.get(p).copies.size() * 9 && !failed; i++) {
                told("copyAt", p, i / 9, i % 9);
            }
            for (int i = 0; i < oracle.plans.size(); i++) {
                told("isBy", p, i);
            }
            told("isWhole", p, 0);
        }
        for (int h = 0; h < oracle.hosts.size() && !failed; h++) {
            for (int i = 0; i < oracle.hosts.get(h).delivered.size() * 4 + 1 && !failed; i++) {
                told("deliveredAt", h, i / 4, i % 4);
            }
        }
        same("isConsistent()", () -> house.isConsistent(), () -> oracle.isConsistent());
        same("errors()", () -> house.errors(), () -> oracle.errors());
        same("deliveredShare()", () -> house.deliveredShare(), () -> oracle.deliveredShare());
        same("meanRules()", () -> house.meanRules(), () -> oracle.meanRules());
    }

    // ---- runs

    void network() {
        for (int i = pick(8); i > 6; i--) {
            stop();
            start();
        }
        if (pick(3) > 0) {
            build(pick(3));
        } else {
            int n = 1 + pick(8);
            for (int i = 0; i < n; i++) {
                addSwitch();
                if (pick(20) == 0) {
                    stop();
                    start();
                }
            }
            for (int i = pick(16); i > 0; i--) {
                addLink(some(n - 1), some(5), some(n - 1), some(5), 1 + some(8));
            }
            for (int i = pick(10); i > 0; i--) {
                addHost(some(n - 1), some(5));
            }
        }
    }

    void store() {
        for (int i = 0; i < 6 && !failed; i++) {
            switch (pick(4)) {
                case 0:
                    type(RandomText.pooled(random));
                    break;
                default:
                    piece(some(5));
                    break;
            }
            if (pick(2) == 0 && !(Boolean) (errors() && load())) {
                return;
            }
            if (oracle.text.size() > 0 && oracle.errorKind() != 0) {
                errors();
                clearText();
            }
        }
        load();
    }

    void step() {
        int switches = oracle.switches.size() - 1;
        int hosts = oracle.hosts.size() - 1;
        int plans = oracle.plans.size() - 1;
        switch (pick(34)) {
            case 0:
                addSwitch();
                break;
            case 1:
                addLink(some(switches), some(5), some(switches), some(5), some(10));
                break;
            case 2:
                addHost(some(switches), some(5));
                break;
            case 3:
                setLink(some(oracle.links.size() - 1), pick(3) > 0);
                break;
            case 4:
                restart(some(switches));
                break;
            case 5:
                portAt(some(switches), some(5));
                break;
            case 6:
                if (pick(2) == 0) {
                    actionAt(some(plans), some(7), pick(6) * 16384 + header(), some(2), some(4));
                } else {
                    ruleAt(some(plans), some(7), some(3), some(2));
                }
                break;
            case 7:
                has(some(oracle.slices.size() - 1), header());
                break;
            case 8:
            case 9:
            case 10:
                update(some(plans), pick(3) > 0 ? FlowHouse.NONE : some(oracle.slices.size() - 1),
                        pick(oracle.used().size() == 1 ? 2 : 9) == 0 ? some(1) : 0);
                break;
            case 11:
                cancel();
                break;
            case 12:
                stop();
                break;
            case 13:
            case 14:
                start();
                break;
            case 15:
            case 16:
            case 17:
                for (int i = pick(40); i > 0 && !failed; i--) {
                    deliver(some(switches), some(1000));
                }
                break;
            case 18:
            case 19:
            case 20:
                for (int i = pick(5); i >= 0 && !failed; i--) {
                    answer(some(1000));
                }
                break;
            case 21:
            case 22:
                settle();
                break;
            case 23:
            case 24:
            case 25:
            case 26:
                for (int i = pick(12) == 0 ? pick(30) : 1; i > 0 && !failed; i--) {
                    send(some(hosts), header());
                }
                break;
            case 27:
            case 28:
                pass(1 + some(pick(4) == 0 ? 199 : 8));
                break;
            case 29:
                told("controllerAt", some(8), 0);
                told("count", some(15), 0);
                break;
            case 30:
                told("messageAt", some(switches), some(20), some(3));
                told("tableAt", some(switches), some(20), some(4));
                told("stampAt", some(switches), some(1), some(2));
                break;
            case 31:
                told("updateAt", some(oracle.updates.size() - 1), some(6));
                told("answerAt", some(oracle.answers.size() - 1), some(3));
                break;
            case 32:
                told("packetAt", some(oracle.packets.size() - 1), some(8));
                told("copyAt", some(oracle.packets.size() - 1), some(5), some(8));
                told("isBy", some(oracle.packets.size() - 1), some(plans));
                break;
            default:
                told("deliveredAt", some(hosts), some(3), some(3));
                if (pick(30) == 0) {
                    walks(pick(4), some(plans), some(hosts), some(hosts), pick(2) == 0 ? some(switches) : some(plans));
                }
                break;
        }
    }

    void run() {
        network();
        store();
        int steps = 20 + pick(150);
        for (int i = 0; i < steps && goesOn(); i++) {
            step();
            if (pick(12) == 0 && !failed) {
                compareAll();
            }
        }
        if (!failed) {
            compareAll();
        }
    }

    /** Texts with errors and without, one after the other. */
    void runOfTexts() {
        for (int i = 0; i < 60 && goesOn(); i++) {
            type(RandomText.anyText(random));
            errors();
            if (pick(4) == 0) {
                load();
            }
            if (pick(3) > 0) {
                clearText();
            }
        }
    }

    /** The rules of random policies, and walks by them. */
    void runOfPolicies() {
        network();
        for (int i = 0; i < 6 && !failed; i++) {
            if (i > 2 && pick(3) == 0) {
                piece(pick(6));
            } else {
                type("policy " + (char) ('r' + i) + " { " + RandomText.policy(random, 1 + pick(3)) + " }");
            }
            errors();
            if (oracle.errorKind() != 0) {
                clearText();
            } else {
                load();
            }
        }
        for (int p = 0; p < oracle.plans.size() && !failed; p++) {
            for (int at = 0; at < 8; at++) {
                rules(p, at);
                for (int i = 0; i < oracle.plans.get(p).tables[at].rules.size() * 3 && !failed; i++) {
                    ruleAt(p, at, i / 3, i % 3);
                }
                for (int i = 0; i < 10 && !failed; i++) {
                    actionAt(p, at, pick(131072), pick(2), pick(5));
                }
            }
        }
        for (int i = 0; i < 16 && !failed && !oracle.hosts.isEmpty(); i++) {
            walks(i % 4, some(oracle.plans.size() - 1), some(oracle.hosts.size() - 1), some(oracle.hosts.size() - 1),
                    i % 4 == 3 ? some(oracle.plans.size() - 1) : some(oracle.switches.size() - 1));
        }
    }

    public static void main(String[] args) {
        long first = args.length > 0 ? Long.parseLong(args[0]) : 1;
        int runs = args.length > 1 ? Integer.parseInt(args[1]) : 150;
        long calls = 0;
        for (long seed = first; seed < first + runs; seed++) {
            AgainstOracle one = new AgainstOracle(seed);
            try {
                if (seed % 10 == 0) {
                    one.runOfTexts();
                } else if (seed % 10 == 5) {
                    one.runOfPolicies();
                } else {
                    one.run();
                }
            } catch (RuntimeException e) {
                one.failed = true;
                one.log.append("   but threw ").append(e).append('\n');
                e.printStackTrace(System.out);
            }
            calls += one.calls;
            if (one.failed) {
                wrong++;
                List<String> lines = new ArrayList<>(List.of(one.log.toString().split("\n")));
                int from = args.length > 2 ? 0 : Math.max(0, lines.size() - 40);
                System.out.println("seed " + seed + ":");
                lines.subList(from, lines.size()).forEach(System.out::println);
                if (wrong > 2) {
                    break;
                }
            }
        }
        System.out.println(wrong == 0 ? runs + " runs, " + calls + " calls: all as the oracle says" : wrong + " runs differ");
        if (wrong != 0) {
            System.exit(1);
        }
    }
}
