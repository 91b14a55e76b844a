/** The boundaries that sections 1 and 2 and the promises 1 to 8 name: the network, the time, a new object. */
public final class EdgesOfNetwork {
    private static final int NONE = -1;
    private static final int MAX = Integer.MAX_VALUE, MIN = Integer.MIN_VALUE;
    private static final Class<? extends RuntimeException> INDEX = Run.INDEX, ARGUMENT = Run.ARGUMENT,
            STATE = Run.STATE;
    private static final String OUT_ONE = "policy a { out 1 }";

    public static void main(String[] args) throws ReflectiveOperationException {
        constants();
        newObjectIsEmpty();
        newObjectHasNothingToNumber();
        eightSwitches();
        numbersOfAnotherSwitch();
        portsOfALink();
        delays();
        anotherSwitch();
        twelveLinks();
        onePortHasOne();
        orderOfAddLink();
        eightHosts();
        portsOfAHost();
        orderOfAddHost();
        untilTheFirstUpdate();
        build();
        linksGoDownAndUp();
        copiesOnALink();
        restart();
        portAt();
        time();
        Run.end("EdgesOfNetwork");
    }

    private static void constants() throws ReflectiveOperationException {
        String[] names = {"NONE", "UNDER_WAY", "HANDLED", "DELIVERED", "DROPPED", "LOST", "CUT", "EXPIRED",
            "ADD", "REMOVE", "CLEAR", "STAMP", "BARRIER", "DONE", "HELLO",
            "IDLE", "ADDING", "STAMPING", "WAITING", "CLEARING", "CHANGING", "ASKING",
            "GOES_ON", "ENDED", "WAS_REFUSED", "WAS_CANCELLED"};
        int[] due = {-1, 0, 1, 2, 3, 4, 5, 6, 0, 1, 2, 3, 4, 0, 1, 0, 1, 2, 3, 4, 5, 6, 0, 1, 2, 3};
        for (int i = 0; i < names.length; i++) {
            int got = FlowHouse.class.getField(names[i]).getInt(null);
            Run.same("the constant " + names[i], got, due[i]);
        }
    }

    // ---- promise 1

    private static void newObjectIsEmpty() {
        Run x = new Run(1, "a house without switches, policies and text; the controller is IDLE");
        x.are("count", Run.of(), 0, 0, 0, 0, 0, 0, 0, 0, 0, 0, 0, 0, 0, 0, 0, 0);
        x.are("controllerAt", Run.of(), 0, 0, 0, 0, 0, 0, NONE, 0, 0);
        x.is(0, "errorKind").is(NONE, "errorPlace").is(0, "settle").is(NONE, "answer", 0).is(0, "clearText")
                .is(0, "load");
        x.is(1, "isConsistent").is(0, "errors").isReal("0.0", "deliveredShare").isReal("0.0", "meanRules");
        x.is(0, "pass", 1).is(1, "count", 0);
    }

    private static void newObjectHasNothingToNumber() {
        Run x = new Run(1, "something with the number 0 does not exist");
        x.refuses(INDEX, "addLink", 0, 0, 0, 1, 1).refuses(INDEX, "addHost", 0, 0).refuses(INDEX, "setLink", 0, 0);
        x.refuses(INDEX, "restart", 0).refuses(INDEX, "portAt", 0, 0).refuses(INDEX, "ruleAt", 0, 0, 0, 0);
        x.refuses(INDEX, "rules", 0, 0).refuses(INDEX, "actionAt", 0, 0, 0, 0, 0).refuses(INDEX, "has", 0, 0);
        x.refuses(INDEX, "reach", 0, 0, 0).refuses(INDEX, "avoids", 0, 0, 0, 0).refuses(INDEX, "astray", 0, 0);
        x.refuses(INDEX, "differsAt", 0, 0, 0).refuses(INDEX, "update", 0, NONE, 0).refuses(INDEX, "updateAt", 0, 0);
        x.refuses(INDEX, "deliver", 0, 0).refuses(INDEX, "answerAt", 0, 0).refuses(INDEX, "messageAt", 0, 0, 0);
        x.refuses(INDEX, "switchAt", 0, 0).refuses(INDEX, "tableAt", 0, 0, 0).refuses(INDEX, "stampAt", 0, 0, 0);
        x.refuses(INDEX, "send", 0, 0).refuses(INDEX, "packetAt", 0, 0).refuses(INDEX, "copyAt", 0, 0, 0);
        x.refuses(INDEX, "isBy", 0, 0).refuses(INDEX, "isWhole", 0).refuses(INDEX, "deliveredAt", 0, 0, 0);
        x.refuses(STATE, "cancel").refuses(STATE, "start");
    }

    // ---- promise 2

    private static void eightSwitches() {
        Run x = new Run(2, "there are at most 8 switches");
        for (int i = 0; i < 8; i++) {
            x.is(i, "count", 1).is(i, "addSwitch");
        }
        x.refuses(STATE, "addSwitch").is(8, "count", 1);
        x.are("switchAt", Run.of(7), 0, 0, 0, 0, 0);
        x.refuses(INDEX, "switchAt", 8, 0).refuses(STATE, "addSwitch").is(8, "count", 1);
        Run y = new Run(2, "a switch behind a built network, up to 8");
        y.is(4, "build", 1).is(4, "addSwitch").is(5, "addSwitch").is(6, "addSwitch").is(7, "addSwitch");
        y.refuses(STATE, "addSwitch");
    }

    // ---- promise 3

    private static Run threeSwitches(String sentence) {
        return new Run(3, sentence).times(3, "addSwitch");
    }

    private static void numbersOfAnotherSwitch() {
        Run x = threeSwitches("a link joins switches that are there");
        x.refuses(INDEX, "addLink", -1, 0, 1, 0, 1).refuses(INDEX, "addLink", 3, 0, 1, 0, 1);
        x.refuses(INDEX, "addLink", 1, 0, -1, 0, 1).refuses(INDEX, "addLink", 1, 0, 3, 0, 1);
        x.refuses(INDEX, "addLink", MIN, 0, 1, 0, 1).refuses(INDEX, "addLink", 1, 0, MAX, 0, 1);
        x.is(0, "addLink", 0, 0, 2, 0, 1).is(1, "addLink", 2, 1, 0, 1, 1).is(2, "count", 2);
    }

    private static void portsOfALink() {
        Run x = threeSwitches("onePort and otherPort are 0 to 5");
        x.refuses(ARGUMENT, "addLink", 0, -1, 1, 0, 1).refuses(ARGUMENT, "addLink", 0, 6, 1, 0, 1);
        x.refuses(ARGUMENT, "addLink", 0, 0, 1, -1, 1).refuses(ARGUMENT, "addLink", 0, 0, 1, 6, 1);
        x.refuses(ARGUMENT, "addLink", 0, MAX, 1, 0, 1).refuses(ARGUMENT, "addLink", 0, 0, 1, MIN, 1);
        x.is(0, "addLink", 0, 0, 1, 5, 1).is(1, "addLink", 0, 5, 1, 0, 1);
        x.is(-2, "portAt", 0, 0).is(-2, "portAt", 1, 5).is(-3, "portAt", 0, 5).is(-3, "portAt", 1, 0);
    }

    private static void delays() {
        Run x = threeSwitches("the delay is 1 to 9");
        x.refuses(ARGUMENT, "addLink", 0, 0, 1, 0, 0).refuses(ARGUMENT, "addLink", 0, 0, 1, 0, 10);
        x.refuses(ARGUMENT, "addLink", 0, 0, 1, 0, MIN).refuses(ARGUMENT, "addLink", 0, 0, 1, 0, MAX);
        x.refuses(ARGUMENT, "addLink", 0, 0, 1, 0, -1);
        x.is(0, "addLink", 0, 1, 1, 0, 1).is(1, "addLink", 1, 1, 2, 0, 9).is(0, "addHost", 0, 0).is(1, "addHost", 2, 1);
        x.text(OUT_ONE).call("load").call("update", 0, NONE, 0).call("settle").is(0, "send", 0, 0);
        x.is(1, "copyAt", 0, 1, 8).is(1, "pass", 1).is(10, "copyAt", 0, 2, 8).is(0, "pass", 8).is(2, "pass", 1);
        for (int delay = 1; delay <= 9; delay++) {
            Run y = new Run(3, "a copy arrives when as many ticks have passed as the delay");
            y.call("addSwitch").call("addSwitch").call("addLink", 0, 1, 1, 0, delay).call("addHost", 0, 0);
            y.text(OUT_ONE).call("load").call("update", 0, NONE, 0).call("settle").call("send", 0, 0);
            if (delay > 1) {
                y.is(0, "pass", delay - 1);
            }
            y.is(0, "copyAt", 0, 1, 0).is(1, "pass", 1).is(1, "copyAt", 0, 1, 0).is(delay, "copyAt", 0, 1, 8);
        }
    }

    private static void anotherSwitch() {
        Run x = threeSwitches("the switches of a link are not the same");
        x.refuses(ARGUMENT, "addLink", 0, 0, 0, 1, 1).refuses(ARGUMENT, "addLink", 2, 3, 2, 3, 1);
        x.is(NONE, "portAt", 0, 0).is(NONE, "portAt", 0, 1).is(0, "addLink", 0, 0, 1, 0, 1);
        x.is(1, "addLink", 0, 1, 1, 1, 1);
    }

    private static void twelveLinks() {
        Run x = new Run(3, "there are at most 12 links").times(6, "addSwitch");
        for (int i = 0; i < 12; i++) {
            x.is(i, "addLink", i / 6, i % 6, 2 + i / 6, i % 6, 1);
        }
        x.refuses(STATE, "addLink", 4, 0, 5, 0, 1).is(12, "count", 2).is(-13, "portAt", 1, 5).is(-13, "portAt", 3, 5);
        x.refuses(INDEX, "addLink", 6, 0, 5, 0, 1).refuses(ARGUMENT, "addLink", 4, 6, 5, 0, 1);
        x.refuses(ARGUMENT, "addLink", 4, 0, 4, 1, 1).refuses(ARGUMENT, "addLink", 4, 0, 5, 0, 10);
        x.is(0, "setLink", 11, 0).refuses(INDEX, "setLink", 12, 0);
        x.is(0, "addHost", 4, 0).refuses(STATE, "addLink", 4, 0, 5, 0, 1);
    }

    private static void onePortHasOne() {
        Run x = threeSwitches("a port has one link or host at most");
        x.call("addLink", 0, 1, 1, 4, 1).call("addHost", 2, 2);
        x.refuses(STATE, "addLink", 0, 1, 2, 0, 1).refuses(STATE, "addLink", 2, 0, 0, 1, 1);
        x.refuses(STATE, "addLink", 1, 4, 2, 0, 1).refuses(STATE, "addLink", 2, 0, 1, 4, 1);
        x.refuses(STATE, "addLink", 2, 2, 1, 0, 1).refuses(STATE, "addLink", 1, 0, 2, 2, 1);
        x.refuses(STATE, "addLink", 0, 1, 1, 4, 1);
        x.refuses(STATE, "addHost", 0, 1).refuses(STATE, "addHost", 1, 4).refuses(STATE, "addHost", 2, 2);
        x.is(NONE, "portAt", 2, 0).is(NONE, "portAt", 1, 0).is(1, "count", 2).is(1, "count", 3);
        x.is(1, "addLink", 0, 0, 2, 1, 1).is(2, "addLink", 0, 2, 2, 3, 1).is(3, "addLink", 1, 3, 2, 4, 1);
        x.is(4, "addLink", 1, 5, 2, 5, 1).is(1, "addHost", 0, 4);
    }

    private static void orderOfAddLink() {
        Run x = threeSwitches("the exception that is listed first");
        x.call("addLink", 0, 0, 1, 0, 1);
        x.refuses(INDEX, "addLink", 3, 6, 1, 1, 1).refuses(INDEX, "addLink", 1, 1, 3, 1, 10);
        x.refuses(INDEX, "addLink", 3, 1, 3, 2, 1).refuses(INDEX, "addLink", 0, 0, 3, 0, 1);
        x.refuses(INDEX, "addLink", 3, 1, 1, 6, 1).refuses(INDEX, "addLink", 0, 6, 3, 1, 1)
                .refuses(INDEX, "addLink", 0, 1, 3, -1, 0);
        x.refuses(ARGUMENT, "addLink", 0, 0, 1, 0, 0).refuses(ARGUMENT, "addLink", 0, 0, 1, 6, 1);
        x.refuses(ARGUMENT, "addLink", 0, -1, 1, 0, 1).refuses(ARGUMENT, "addLink", 0, 0, 0, 0, 1);
        x.text(OUT_ONE).call("load").call("update", 0, NONE, 0);
        x.refuses(INDEX, "addLink", 0, 2, -1, 2, 1).refuses(ARGUMENT, "addLink", 0, 2, 1, 2, 10);
        x.refuses(ARGUMENT, "addLink", 1, 2, 1, 3, 1).refuses(STATE, "addLink", 0, 2, 1, 2, 1);
    }

    // ---- promise 4

    private static void eightHosts() {
        Run x = new Run(4, "there are at most 8 hosts").times(2, "addSwitch");
        for (int i = 0; i < 8; i++) {
            x.is(i, "addHost", i / 4, i % 4);
        }
        x.refuses(STATE, "addHost", 1, 4).is(8, "count", 3).is(7, "portAt", 1, 3).is(NONE, "portAt", 1, 4);
        x.refuses(INDEX, "addHost", 2, 4).refuses(ARGUMENT, "addHost", 1, 6);
        x.is(0, "send", 7, 0).refuses(INDEX, "send", 8, 0);
        x.is(0, "addLink", 0, 4, 1, 4, 1);
    }

    private static void portsOfAHost() {
        Run x = new Run(4, "the port of a host is 0 to 5").times(2, "addSwitch");
        x.refuses(ARGUMENT, "addHost", 0, -1).refuses(ARGUMENT, "addHost", 0, 6).refuses(ARGUMENT, "addHost", 0, MIN);
        x.refuses(INDEX, "addHost", -1, 0).refuses(INDEX, "addHost", 2, 0).refuses(INDEX, "addHost", MAX, 0);
        x.is(0, "addHost", 0, 0).is(1, "addHost", 0, 5).is(2, "addHost", 1, 0).is(3, "addHost", 1, 5);
        x.is(0, "portAt", 0, 0).is(1, "portAt", 0, 5).is(2, "portAt", 1, 0).is(3, "portAt", 1, 5);
    }

    private static void orderOfAddHost() {
        Run x = new Run(4, "the exception that is listed first").times(2, "addSwitch").call("addHost", 0, 0);
        x.refuses(INDEX, "addHost", 2, 6).refuses(INDEX, "addHost", -1, -1);
        x.text(OUT_ONE).call("load").call("update", 0, NONE, 0);
        x.refuses(INDEX, "addHost", 2, 1).refuses(ARGUMENT, "addHost", 0, 6).refuses(STATE, "addHost", 0, 1);
        x.refuses(STATE, "addHost", 0, 0);
    }

    private static void untilTheFirstUpdate() {
        Run x = new Run(2, "the network can be added to until the first update is begun");
        x.house(2, OUT_ONE + "slice s { any }");
        x.refuses(INDEX, "update", 1, NONE, 0).refuses(ARGUMENT, "update", 0, NONE, 2)
                .refuses(STATE, "update", 0, NONE, 1);
        x.call("send", 0, 0).call("stop").call("start").call("settle").call("pass", 200);
        x.is(3, "addSwitch").is(2, "addLink", 3, 0, 2, 5, 4).is(3, "addHost", 3, 3);
        x.is(0, "update", 0, NONE, 0);
        x.refuses(STATE, "addSwitch").refuses(STATE, "addLink", 3, 1, 2, 4, 4).refuses(STATE, "addHost", 3, 4);
        x.call("cancel").refuses(STATE, "addSwitch").call("settle").is(0, "controllerAt", 0);
        x.refuses(STATE, "addSwitch").refuses(STATE, "addLink", 3, 1, 2, 4, 4).refuses(STATE, "addHost", 3, 4);
        x.are("count", Run.of(), 200, 4, 3, 4);
        x.call("stop").refuses(STATE, "addSwitch").refuses(STATE, "build", 0);
    }

    // ---- promise 5

    private static void build() {
        Run x = new Run(5, "which is 0 to 2");
        x.refuses(ARGUMENT, "build", -1).refuses(ARGUMENT, "build", 3).refuses(ARGUMENT, "build", MAX)
                .is(0, "count", 1);
        x.is(4, "build", 0).refuses(STATE, "build", 0).refuses(STATE, "build", 2);
        x.refuses(ARGUMENT, "build", -1).refuses(ARGUMENT, "build", 3);
        x.are("count", Run.of(), 0, 4, 4, 4).is(4, "addSwitch").is(4, "addHost", 4, 0).is(4, "addLink", 4, 1, 0, 5, 1);
        new Run(5, "the last network").is(3, "build", 2).are("count", Run.of(), 0, 3, 2, 3).refuses(STATE, "build", 1);
        new Run(5, "the network in the middle").is(4, "build", 1).are("count", Run.of(), 0, 4, 4, 4);
        Run y = new Run(5, "there is a switch").call("addSwitch");
        y.refuses(STATE, "build", 0).refuses(STATE, "build", 1).refuses(STATE, "build", 2)
                .refuses(ARGUMENT, "build", 3);
        y.are("count", Run.of(), 0, 1, 0, 0);
        y.are("portAt", Run.of(0), NONE, NONE, NONE, NONE, NONE, NONE);
    }

    // ---- promise 6

    private static void linksGoDownAndUp() {
        Run x = new Run(6, "a link is up at first; it can go down, and up again").house(2, OUT_ONE);
        x.refuses(INDEX, "setLink", -1, 0).refuses(INDEX, "setLink", 2, 0).refuses(INDEX, "setLink", 2, 1);
        x.refuses(INDEX, "setLink", MIN, 1);
        x.call("update", 0, NONE, 0).call("settle");
        x.call("send", 0, 0).is(0, "copyAt", 0, 1, 0);
        x.is(1, "setLink", 0, 0).call("send", 0, 0).is(5, "copyAt", 1, 1, 0);
        x.is(0, "setLink", 0, 0).is(0, "setLink", 0, 1).call("send", 0, 0).is(0, "copyAt", 2, 1, 0);
        x.is(0, "setLink", 0, 1).is(0, "copyAt", 2, 1, 0).is(1, "setLink", 0, 0).is(0, "setLink", 0, 0);
        x.are("copyAt", Run.of(0, 1), 5, 0, 0, 1, NONE, NONE, NONE, 1, 0);
        x.are("copyAt", Run.of(1, 1), 5, 0, 0, 1, NONE, NONE, NONE, 0, 0);
        Run y = new Run(6, "the link with the greatest number").house(2, OUT_ONE).call("update", 0, NONE, 0)
                .call("settle");
        y.is(0, "setLink", 1, 0).call("send", 0, 0).is(1, "pass", 9).is(5, "copyAt", 0, 2, 0).is(9, "copyAt", 0, 2, 8);
    }

    private static void copiesOnALink() {
        Run x = new Run(6, "all copies on a link become CUT, of all packets and both ways, and no others");
        x.house(2, "policy a { at 0 { out 1 } | at 1 { if in 0 { out 1 } else { out 0 } } | at 2 { out 0 } }");
        x.call("update", 0, NONE, 0).call("settle");
        x.call("send", 0, 0).is(0, "pass", 8).call("send", 0, 0).call("send", 2, 0).is(3, "count", 9);
        // the copies of the packets 0 and 2 arrive at switch 1 and go on; that of packet 1 is still on link 0
        x.is(2, "pass", 1).is(3, "count", 9).is(2, "setLink", 0, 0).is(1, "count", 9);
        x.are("copyAt", Run.of(0, 1), 1, 0, 0, 1, 1, 0, NONE, 1, 9);
        x.are("copyAt", Run.of(0, 2), 0, 0, 1, 1, 2, 0, NONE, 2, 10);
        x.are("copyAt", Run.of(1, 1), 5, 0, 0, 1, NONE, NONE, NONE, 1, 9);
        x.are("copyAt", Run.of(2, 1), 1, 0, 0, 0, 1, 1, NONE, 1, 9);
        x.are("copyAt", Run.of(2, 2), 5, 0, 1, 0, NONE, NONE, NONE, 2, 9);
        x.is(1, "pass", 1).is(0, "setLink", 0, 0).is(1, "setLink", 1, 0).is(0, "count", 9);
    }

    // ---- promise 7

    private static void restart() {
        Run x = new Run(7, "restart of a switch that is there").house(2, OUT_ONE);
        x.refuses(INDEX, "restart", -1).refuses(INDEX, "restart", 3).refuses(INDEX, "restart", MAX);
        x.is(0, "controllerAt", 3).is(0, "restart", 0).is(0, "restart", 2);
        x.is(2, "controllerAt", 3).is(2, "count", 15);
        x.call("settle").call("update", 0, NONE, 0).call("settle").is(1, "restart", 2).is(0, "restart", 2);
        x.are("switchAt", Run.of(2), 0, 0, 0, 0, 3);
    }

    // ---- promise 8

    private static void portAt() {
        Run x = new Run(8, "what is at a port, 0 to 5, of a switch that is there").call("build", 0);
        x.refuses(INDEX, "portAt", -1, 0).refuses(INDEX, "portAt", 4, 0).refuses(INDEX, "portAt", MIN, 0);
        x.refuses(ARGUMENT, "portAt", 0, -1).refuses(ARGUMENT, "portAt", 0, 6).refuses(ARGUMENT, "portAt", 3, MAX);
        x.refuses(INDEX, "portAt", 4, 6).refuses(INDEX, "portAt", -1, -1);
        x.are("portAt", Run.of(0), 0, -2, -3, NONE, NONE, NONE).are("portAt", Run.of(3), -4, -5, 1, NONE, NONE, NONE);
    }

    // ---- section 2

    private static void time() {
        Run x = new Run(38, "the time is 0 at first, a tick makes it 1 more");
        x.is(0, "count", 0).call("pass", 1).is(1, "count", 0).call("pass", 200).is(201, "count", 0);
        x.refuses(ARGUMENT, "pass", 0).refuses(ARGUMENT, "pass", 201).is(201, "count", 0);
    }
}
