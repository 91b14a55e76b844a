/** Promises 1 to 8: a new object, and the network. */
public final class NetworkPromises {
    private static final Due DUE = new Due();

    public static void main(String[] args) {
        newObject();
        addSwitch();
        addLink();
        addHost();
        build();
        setLink();
        restart();
        portAt();
        DUE.end("NetworkPromises");
    }

    private static void newObject() {
        FlowHouse x = new FlowHouse();
        DUE.are(1, "count", x::count, new int[16]);
        DUE.are(1, "controllerAt", x::controllerAt, FlowHouse.IDLE, 0, 0, 0, 0, 0, FlowHouse.NONE, 0, 0);
        DUE.is(1, "errorKind()", x.errorKind(), 0);
        DUE.is(1, "errorPlace()", x.errorPlace(), FlowHouse.NONE);
        DUE.is(1, "settle()", x.settle(), 0);
        DUE.is(1, "load()", x.load(), 0);
        DUE.is(1, "isConsistent()", x.isConsistent(), true);
        DUE.is(1, "errors()", x.errors(), 0);
        DUE.isReal(1, "deliveredShare()", x.deliveredShare(), 0.0);
        DUE.isReal(1, "meanRules()", x.meanRules(), 0.0f);
        FlowHouse other = new FlowHouse();
        other.addSwitch();
        DUE.is(1, "a switch of another object", x.count(1), 0);
    }

    private static void addSwitch() {
        FlowHouse x = new FlowHouse();
        for (int i = 0; i < 8; i++) {
            DUE.is(2, "addSwitch()", x.addSwitch(), i);
        }
        DUE.noState(2, "a 9th switch", x::addSwitch);
        DUE.is(2, "count(1)", x.count(1), 8);
        DUE.are(2, "switchAt(7)", i -> x.switchAt(7, i), 0, 0, 0, 0, 0);
        FlowHouse y = Due.house(2, "policy a { drop }");
        DUE.is(2, "a switch ahead of the first update", y.addSwitch(), 3);
        y.update(0, FlowHouse.NONE, 0);
        DUE.noState(2, "a switch behind the first update", y::addSwitch);
        y.settle();
        DUE.noState(2, "a switch behind the end of the first update", y::addSwitch);
    }

    private static void addLink() {
        FlowHouse x = new FlowHouse();
        x.addSwitch();
        x.addSwitch();
        x.addSwitch();
        DUE.is(3, "addLink", x.addLink(0, 0, 1, 5, 1), 0);
        DUE.is(3, "addLink", x.addLink(0, 1, 1, 4, 9), 1);
        DUE.is(3, "count(2)", x.count(2), 2);
        DUE.noIndex(3, "no such switch", () -> x.addLink(-1, 2, 1, 2, 1));
        DUE.noIndex(3, "no such other switch", () -> x.addLink(1, 2, 3, 2, 1));
        DUE.noIndex(3, "no switch goes ahead", () -> x.addLink(3, 9, 3, 9, 0));
        DUE.noArgument(3, "port -1", () -> x.addLink(0, -1, 1, 2, 1));
        DUE.noArgument(3, "port 6", () -> x.addLink(0, 2, 1, 6, 1));
        DUE.noArgument(3, "port MAX", () -> x.addLink(0, Integer.MAX_VALUE, 1, 2, 1));
        DUE.noArgument(3, "delay 0", () -> x.addLink(0, 2, 1, 2, 0));
        DUE.noArgument(3, "delay 10", () -> x.addLink(0, 2, 1, 2, 10));
        DUE.noArgument(3, "delay MIN", () -> x.addLink(0, 2, 1, 2, Integer.MIN_VALUE));
        DUE.noArgument(3, "the same switch", () -> x.addLink(2, 0, 2, 1, 1));
        DUE.noArgument(3, "the argument goes ahead", () -> x.addLink(0, 0, 1, 5, 10));
        DUE.noState(3, "the first port has a link", () -> x.addLink(0, 0, 2, 0, 1));
        DUE.noState(3, "the other port has a link", () -> x.addLink(2, 0, 1, 5, 1));
        x.addHost(2, 3);
        DUE.noState(3, "a port has a host", () -> x.addLink(0, 2, 2, 3, 1));
        FlowHouse y = new FlowHouse();
        for (int i = 0; i < 6; i++) {
            y.addSwitch();
        }
        for (int i = 0; i < 12; i++) {
            DUE.is(3, "addLink", y.addLink(i / 6, i % 6, 2 + i / 6, i % 6, 1), i);
        }
        DUE.noState(3, "a 13th link", () -> y.addLink(4, 0, 5, 0, 1));
        FlowHouse z = Due.house(2, "policy a { drop }");
        z.update(0, FlowHouse.NONE, 0);
        DUE.noState(3, "a link behind the first update", () -> z.addLink(0, 5, 1, 5, 1));
    }

    private static void addHost() {
        FlowHouse x = new FlowHouse();
        DUE.noIndex(4, "no switch", () -> x.addHost(0, 0));
        x.addSwitch();
        x.addSwitch();
        x.addLink(0, 5, 1, 5, 2);
        DUE.noIndex(4, "no such switch", () -> x.addHost(2, 0));
        DUE.noIndex(4, "no such switch goes ahead", () -> x.addHost(-1, 6));
        DUE.noArgument(4, "port 6", () -> x.addHost(0, 6));
        DUE.noArgument(4, "port -1", () -> x.addHost(0, -1));
        DUE.noState(4, "a link is there", () -> x.addHost(0, 5));
        for (int i = 0; i < 8; i++) {
            DUE.is(4, "addHost", x.addHost(i / 4, i % 4), i);
        }
        DUE.noState(4, "a 9th host", () -> x.addHost(1, 4));
        DUE.is(4, "count(3)", x.count(3), 8);
        FlowHouse y = new FlowHouse();
        y.addSwitch();
        y.addHost(0, 0);
        DUE.noState(4, "a host is there", () -> y.addHost(0, 0));
        FlowHouse z = Due.house(2, "policy a { drop }");
        z.update(0, FlowHouse.NONE, 0);
        DUE.noState(4, "a host behind the first update", () -> z.addHost(0, 5));
    }

    private static void build() {
        int[][] ports = {
            {0, -2, -3, -1, -1, -1, -2, -4, 2, -1, -1, -1, -3, -5, 3, -1, -1, -1, -4, -5, 1, -1, -1, -1},
            {-5, -2, 0, -1, -1, -1, -2, -3, 1, -1, -1, -1, -3, -4, 2, -1, -1, -1, -4, -5, 3, -1, -1, -1},
            {0, -2, 1, -1, -1, -1, -2, -3, -1, -1, -1, -1, -3, 2, -1, -1, -1, -1}};
        int[][] delays = {{2, 3, 2, 1}, {1, 2, 3, 4}, {9, 1}};
        for (int which = 0; which < 3; which++) {
            FlowHouse x = new FlowHouse();
            DUE.is(5, "build(" + which + ")", x.build(which), ports[which].length / 6);
            DUE.are(5, "portAt of network " + which, i -> x.portAt(i / 6, i % 6), ports[which]);
            DUE.is(5, "links", x.count(2), delays[which].length);
            DUE.noState(5, "a second time", () -> x.build(0));
        }
        // the delays, by a policy that lets a copy go around
        String around = "policy a { if in 0 { out 1 } else { if in 1 { out 0 } else { out 1 } } }";
        FlowHouse ring = Due.house(1, around);
        ring.update(0, FlowHouse.NONE, 0);
        ring.settle();
        ring.send(0, 0);
        DUE.are(5, "arrival on the ring", i -> arrival(ring, i + 1), 1, 3, 6, 10, 11);
        FlowHouse line = Due.house(2, "policy a { out 1 }");
        line.update(0, FlowHouse.NONE, 0);
        line.settle();
        line.send(0, 0);
        DUE.are(5, "arrival on the line", i -> arrival(line, i + 1), 9, 10);
        FlowHouse four = Due.house(0, "policy a { at 0 { out 1 | out 2 } | at 1 { out 1 } | at 2 { out 1 } }");
        four.update(0, FlowHouse.NONE, 0);
        four.settle();
        four.send(0, 0);
        DUE.is(5, "link 0 of network 0", four.copyAt(0, 1, 8), 2);
        DUE.is(5, "link 1 of network 0", four.copyAt(0, 2, 8), 3);
        four.pass(3);
        DUE.is(5, "link 2 of network 0", four.copyAt(0, 3, 8), 4);
        DUE.is(5, "link 3 of network 0", four.copyAt(0, 4, 8), 4);
        FlowHouse y = new FlowHouse();
        DUE.noArgument(5, "build(-1)", () -> y.build(-1));
        DUE.noArgument(5, "build(3)", () -> y.build(3));
        y.addSwitch();
        DUE.noArgument(5, "the argument goes ahead", () -> y.build(3));
        DUE.noState(5, "there is a switch", () -> y.build(1));
        DUE.is(5, "nothing was added", y.count(1) + y.count(2) + y.count(3), 1);
    }

    /** When a copy arrives; time passes until it is made. */
    private static int arrival(FlowHouse x, int copy) {
        for (int i = 0; i < 100 && x.packetAt(0, 4) <= copy; i++) {
            x.pass(1);
        }
        return x.copyAt(0, copy, 8);
    }

    private static void setLink() {
        FlowHouse x = Due.house(2, "policy a { out 1 }");
        DUE.noIndex(6, "setLink(2)", () -> x.setLink(2, true));
        DUE.noIndex(6, "setLink(-1)", () -> x.setLink(-1, false));
        x.update(0, FlowHouse.NONE, 0);
        x.settle();
        x.send(0, 0);
        x.send(1, 1);
        x.pass(8);
        DUE.is(6, "another link goes down", x.setLink(1, false), 0);
        DUE.is(6, "a link with two copies goes down", x.setLink(0, false), 2);
        DUE.is(6, "it goes down again", x.setLink(0, false), 0);
        DUE.are(6, "the copy", i -> x.copyAt(0, 1, i), FlowHouse.CUT, 0, 0, 1, FlowHouse.NONE, FlowHouse.NONE, FlowHouse.NONE, 1, 8);
        x.send(0, 0);
        DUE.are(6, "a copy at a link that is down", i -> x.copyAt(2, 1, i),
                FlowHouse.CUT, 0, 0, 1, FlowHouse.NONE, FlowHouse.NONE, FlowHouse.NONE, 0, 8);
        DUE.is(6, "it goes up", x.setLink(0, true), 0);
        x.send(0, 0);
        DUE.is(6, "a copy at the link that is up again", x.copyAt(3, 1, 0), FlowHouse.UNDER_WAY);
        DUE.is(6, "what was cut stays so", x.copyAt(0, 1, 0), FlowHouse.CUT);
        DUE.is(6, "up again with a copy on it", x.setLink(0, true), 0);
        DUE.is(6, "the copy is still on it", x.copyAt(3, 1, 0), FlowHouse.UNDER_WAY);
    }

    private static void restart() {
        FlowHouse x = Due.house(2, "policy a { if in 0 { out 1 } else { out 0 } }");
        DUE.noIndex(7, "restart(3)", () -> x.restart(3));
        DUE.noIndex(7, "restart(-1)", () -> x.restart(-1));
        DUE.is(7, "a switch without rules", x.restart(0), 0);
        DUE.are(7, "the answer", i -> x.answerAt(0, i), FlowHouse.HELLO, 0, 0, 0);
        x.update(0, FlowHouse.NONE, 0);
        x.settle();
        int rules = x.rules(0, 1);
        x.send(0, 0);
        x.update(0, FlowHouse.NONE, 0);
        x.deliver(1, 0);
        DUE.is(7, "a switch with rules", x.restart(1), rules + 1);
        DUE.are(7, "the switch", i -> x.switchAt(1, i), 0, 0, 0, 0, 1);
        DUE.is(7, "its answers", x.controllerAt(3), 1);
        DUE.is(7, "restarts", x.count(15), 2);
        DUE.is(7, "copies stay under way", x.count(9), 1);
        x.restart(0);
        x.restart(1);
        DUE.is(7, "answers of it are gone", x.controllerAt(3), 2);
        DUE.is(7, "those of others are not", x.answerAt(0, 1), 0);
        DUE.is(7, "its own comes last", x.answerAt(1, 1), 1);
        DUE.is(7, "restarts", x.switchAt(1, 4), 2);
        x.stop();
        x.restart(1);
        DUE.is(7, "HELLO while the controller is stopped", x.controllerAt(3), 0);
        // the rules that were refused ahead of the restart do not count
        FlowHouse y = Due.house(2, "policy a { if to = 1 .. 14 and from = 1 .. 14 { out 1 } else { out 2 } }");
        y.update(0, FlowHouse.NONE, 0);
        for (int i = 0; i < 60 && y.switchAt(0, 2) > 1; i++) {
            y.deliver(0, 0);
        }
        y.restart(0);
        y.answer(0);
        DUE.is(7, "brought up", y.messageAt(0, 0, 0), FlowHouse.BARRIER);
        y.deliver(0, 0);
        DUE.is(7, "refused since the restart", y.answerAt(0, 3), 0);
    }

    private static void portAt() {
        FlowHouse x = new FlowHouse();
        x.build(2);
        DUE.is(8, "a host", x.portAt(0, 2), 1);
        DUE.is(8, "a link", x.portAt(1, 1), -3);
        DUE.is(8, "nothing", x.portAt(1, 5), FlowHouse.NONE);
        DUE.noIndex(8, "portAt(3, 0)", () -> x.portAt(3, 0));
        DUE.noIndex(8, "portAt(-1, 9)", () -> x.portAt(-1, 9));
        DUE.noArgument(8, "portAt(0, 6)", () -> x.portAt(0, 6));
        DUE.noArgument(8, "portAt(0, -1)", () -> x.portAt(0, -1));
    }
}
