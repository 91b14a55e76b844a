/**
 * The boundaries that the promises 44 to 48 name, that an object is used for at most 512 calls, and that section 1
 * names: a call that throws changes nothing, and questions change nothing.
 */
public final class EdgesOfCounts {
    private static final int NONE = -1;
    private static final int MAX = Integer.MAX_VALUE, MIN = Integer.MIN_VALUE;
    private static final int IDLE = 0, ADDING = 1, STAMPING = 2, WAITING = 3, CLEARING = 4, CHANGING = 5, ASKING = 6;
    private static final Class<? extends RuntimeException> INDEX = Run.INDEX, ARGUMENT = Run.ARGUMENT,
            STATE = Run.STATE, ELEMENT = Run.ELEMENT;

    public static void main(String[] args) {
        numbersOfCounts();
        eachCount();
        byNoPolicy();
        missing();
        shares();
        means();
        alwaysConsistent();
        consistentOfMost();
        errorsOfEachState();
        calls512();
        callsOfOneKind();
        manyCopies();
        for (int phase = IDLE; phase <= ASKING; phase++) {
            refusedCalls(phase, false);
            refusedCalls(phase, true);
        }
        refusedBehindRefusedRules();
        Run.end("EdgesOfCounts");
    }

    // ---- promise 44

    private static void numbersOfCounts() {
        Run x = new Run(44, "what is 0 to 15").is(0, "count", 0).is(0, "count", 15);
        x.refuses(ARGUMENT, "count", -1).refuses(ARGUMENT, "count", 16).refuses(ARGUMENT, "count", MAX)
                .refuses(ARGUMENT, "count", MIN);
    }

    private static void eachCount() {
        Run x = new Run(44, "each count, of few and of none")
                .house(2, "policy a { out 1 | at 0 { out 2 } } policy b { drop } slice s { any }");
        x.are("count", Run.of(), 0, 3, 2, 3, 2, 1, 0, 0, 0, 0, 0, 0, 0, 0, 0, 0);
        x.text("ab").call("update", 0, NONE, 0).are("count", Run.of(), 0, 3, 2, 3, 2, 1, 1, 0, 0, 0, 0, 0, 0, 6, 2, 0)
                .call("settle");
        x.call("send", 0, 0).are("count", Run.of(), 0, 3, 2, 3, 2, 1, 1, 1, 3, 1, 1, 0, 0, 0, 2, 0);
        x.call("send", 2, 0).call("restart", 1).call("restart", 1)
                .are("count", Run.of(), 0, 3, 2, 3, 2, 1, 1, 2, 5, 1, 2, 0, 0, 0, 2, 2);
        x.call("pass", 9).are("count", Run.of(), 9, 3, 2, 3, 2, 1, 1, 2, 5, 0, 2, 0, 1, 0, 2, 2);
    }

    private static void byNoPolicy() {
        Run x = new Run(44, "packets that go by no policy in the store: all, if there is none").call("build", 2)
                .is(0, "count", 11).call("send", 0, 0).call("send", 1, 0).is(2, "count", 11);
        x.text("policy a { drop }").is(2, "count", 11).call("load").is(0, "count", 11);
        Run y = new Run(44, "packets that go by no policy in the store")
                .house(2, "policy a { out 1 } policy b { at 0 { out 2 } | at 1 { out 0 } }").call("update", 0, NONE, 0)
                .call("settle");
        y.call("send", 0, 0).call("update", 1, NONE, 1).call("settle").call("send", 0, 0).is(0, "count", 11)
                .call("pass", 9).is(1, "count", 11).is(1, "isConsistent");
        y.text("policy c { at 0 { out 1 } | at 1 { out 0 } }").call("load").is(0, "count", 11);
    }

    private static void missing() {
        Run x = new Run(44, "packets of which something is missing").house(2, "policy a { out 1 }").is(0, "count", 12)
                .call("send", 0, 0).is(1, "count", 12).call("update", 0, NONE, 0).call("settle");
        x.call("send", 0, 0).is(1, "count", 12).is(1, "setLink", 0, 0).is(2, "count", 12).call("send", 0, 0)
                .is(3, "count", 12);
    }

    // ---- promises 45 to 48

    private static void shares() {
        Run x = new Run(47, "copies that were delivered by all copies; 0.0 without a copy")
                .isReal("0.0", "deliveredShare").house(2, "policy a { at 0 { out 2 } | at 2 { out 1 | out 2 } }");
        x.call("send", 0, 0).isReal("0.0", "deliveredShare").call("update", 0, NONE, 0).call("settle")
                .call("send", 0, 0).isReal(Double.toString(1.0 / 3.0), "deliveredShare");
        x.call("send", 2, 0).isReal(Double.toString(2.0 / 6.0), "deliveredShare").call("send", 0, 0)
                .isReal(Double.toString(3.0 / 8.0), "deliveredShare");
    }

    private static void means() {
        Run x = new Run(48, "rules by switches; 0.0f without a switch").isReal("0.0", "meanRules").call("addSwitch")
                .isReal("0.0", "meanRules").text("policy a { if mark = 0 { out 1 } }").call("load");
        x.call("update", 0, NONE, 0).call("settle").isReal("1.0", "meanRules").is(1, "restart", 0)
                .isReal("0.0", "meanRules");
        Run y = new Run(48, "the quotient of two floats").house(2, "policy a { at 0 { out 1 } }")
                .call("update", 0, NONE, 0).isReal("0.0", "meanRules").call("settle")
                .isReal(Float.toString(1.0f / 3.0f), "meanRules");
        Run z = new Run(48, "with eight switches").times(8, "addSwitch")
                .text("policy a { at 7 { out 1 } | at 0 { if mark = 0 { out 2 } else { out 1 } } }").call("load")
                .call("update", 0, NONE, 0).call("settle");
        z.isReal(Float.toString(5.0f / 8.0f), "meanRules");
    }

    private static void alwaysConsistent() {
        for (int phase = IDLE; phase <= ASKING; phase++) {
            Run x = busy(phase, 45, "true, always; promise 46: always 0").is(1, "isConsistent").is(0, "errors")
                    .call("restart", 0).is(1, "isConsistent");
            x.call("setLink", 0, 0).is(1, "isConsistent").is(0, "errors").call("stop").is(1, "isConsistent")
                    .call("pass", 200).is(1, "isConsistent").is(0, "errors");
            x.call("start").call("settle").is(1, "isConsistent").is(0, "errors").call("pass", 109).is(1, "isConsistent")
                    .call("settle").is(1, "isConsistent").is(0, "errors");
        }
    }

    private static void consistentOfMost() {
        Run x = new Run(45, "true, with as many switches as there can be; promise 46: 0").times(8, "addSwitch")
                .text("policy a { out 1 } policy b { if mark = 0 { out 1 } }").call("load").is(1, "isConsistent")
                .is(0, "errors");
        for (int i = 0; i < 2; i++) {
            x.call("update", i, NONE, 0).is(1, "isConsistent").is(0, "errors").call("settle").is(1, "isConsistent")
                    .is(0, "errors");
        }
        x.call("restart", 7).is(1, "isConsistent").is(0, "errors").call("settle").is(2, "switchAt", 7, 0)
                .is(1, "isConsistent").is(0, "errors");
    }

    private static void errorsOfEachState() {
        Run x = new Run(46, "copies that are under way on a link that is down, or should have arrived: no others")
                .house(1, "policy a { if mark = 0 { out 1 | out 2 | out 3 } else { if mark = 1 { out 1 } } }")
                .call("update", 0, NONE, 0).call("settle");
        x.call("send", 0, 2).is(3, "copyAt", 0, 0, 0).is(0, "errors").call("send", 0, 0).is(2, "copyAt", 1, 2, 0)
                .is(4, "copyAt", 1, 3, 0).is(0, "errors").call("send", 0, 1).is(0, "copyAt", 2, 1, 0).is(0, "errors");
        x.is(2, "setLink", 0, 0).is(5, "copyAt", 2, 1, 0).is(0, "errors").call("send", 0, 0).is(5, "copyAt", 3, 1, 0)
                .is(0, "errors").call("pass", 9).is(0, "errors");
        x.call("setLink", 0, 1).call("send", 0, 1).call("pass", 30).is(6, "copyAt", 4, 13, 0).is(0, "errors")
                .call("setLink", 0, 0).is(0, "errors");
    }

    // ---- what it is: at most 512 calls

    private static void calls512() {
        Run x = new Run(38, "512 calls, of which the last one is answered").times(511, "pass", 200)
                .is(102200, "count", 0);
        Run.same("calls left", x.callsLeft(), 0);
        Run y = new Run(7, "512 calls").call("build", 2).times(509, "restart", 2).is(509, "count", 15)
                .is(1, "controllerAt", 3);
        Run.same("calls left", y.callsLeft(), 0);
        Run z = new Run(26, "512 calls").call("build", 2);
        for (int i = 0; i < 254; i++) {
            z.is(0, "stop").is(IDLE, "start");
        }
        // all BARRIERs and their DONE; then each switch is brought up
        z.is(254, "controllerAt", 1).is(254, "switchAt", 0, 2).is(2 * 3 * 254 + 6 + 3, "settle");
        Run.same("calls left", z.callsLeft(), 0);
        Run w = new Run(9, "512 calls").is(0, "clearText");
        for (int i = 0; i < 255; i++) {
            w.is(48, "type", -1, -1, -1, -1, -1, -1).is(48, "clearText");
        }
        w.is(0, "errorKind");
        Run.same("calls left", w.callsLeft(), 0);
    }

    private static void callsOfOneKind() {
        Run x = new Run(31, "updates up to the 512th call")
                .house(2, "policy a { out 1 } policy b { if mark = 0 .. 3 { out 1 } else { out 0 } }");
        for (int i = 0; i < 20; i++) {
            x.is(i, "update", i % 2, NONE, 0).call("restart", i % 3).call("settle").call("stop").call("start")
                    .call("settle").call("pass", 109).call("settle").is(1, "updateAt", i, 4);
            x.call("send", 0, i).call("send", 1, i).call("send", 2, i).call("pass", 5).is(1, "isConsistent")
                    .is(0, "errors");
            x.call("setLink", i % 2, i % 4 < 2 ? 0 : 1).call("count", 12).call("count", 11).call("differsAt", 0, 1, 0)
                    .call("astray", i % 2, 2);
        }
        x.refuses(STATE, "update", 0, NONE, 0).refuses(STATE, "send", 0, 0).is(60, "count", 7);
        for (int i = 0; x.callsLeft() > 1; i++) {
            x.is(i % 3, "packetAt", i % 60, 0);
        }
        x.is(20, "count", 6);
        Run y = new Run(12, "texts up to the 512th call");
        for (int i = 0; i < 127; i++) {
            y.is(16, "type", 0x706f6c6963792061L, 0x7b64726f707d0a0aL, 0, 0, 0, 0).is(0, "errorKind")
                    .is(NONE, "errorPlace").is(16, "clearText");
        }
        y.is(16, "type", 0x706f6c6963792061L, 0x7b64726f707d0a0aL, 0, 0, 0, 0).is(0, "errorKind").is(1, "load")
                .is(1, "count", 4);
        Run.same("calls left", y.callsLeft(), 0);
    }

    private static void manyCopies() {
        Run x = new Run(37, "60 packets of 64 copies")
                .house(1, "policy a { (mark := 0|mark := 1|mark := 2|mark := 3|mark := 4|mark := 5|mark := 6|mark := 7); if in 2 { out 1 } else { out 2 } }");
        x.call("update", 0, NONE, 0).call("settle");
        for (int i = 0; i < 60; i++) {
            x.is(i, "send", i % 4, i * 273);
        }
        x.is(60 * 9, "count", 8).is(60 * 8, "count", 9).is(60 * 63, "pass", 4).is(60 * 64, "count", 8).is(0, "count", 9)
                .is(60 * 55, "count", 10).is(60, "count", 12).is(0, "count", 11);
        x.is(1, "isConsistent").is(0, "errors").isReal(Double.toString(55.0 / 64.0), "deliveredShare")
                .are("copyAt", Run.of(59, 63), 2, 59 * 273 / 8 * 8 + 6, 7, 2, NONE, NONE, 0, 1, 4);
        x.is(63, "deliveredAt", 1, 15 * 55 - 1, 1).refuses(ELEMENT, "deliveredAt", 1, 15 * 55, 1);
    }

    // ---- section 1: nothing is changed

    /** A house in a phase, with messages and answers that wait, copies under way, and a text. */
    private static Run busy(int phase, int promise, String sentence) {
        Run x = new Run(promise, sentence)
                .house(2, "policy a { out 1 | at 0 { out 2 } } policy b { if mark = 0 .. 3 { out 1 } else { out 0 } } policy c { at 1 { out 1 } } slice s { mark = 0 } slice t { any }");
        if (phase != IDLE) {
            x.call("update", 0, phase == CHANGING ? NONE : 1, 0).call("settle").call("send", 0, 8).call("pass", 4)
                    .call("send", 0, 7);
        }
        if (phase == ADDING || phase == STAMPING) {
            x.call("update", 1, 0, 0);
        } else if (phase == WAITING || phase == CLEARING || phase == CHANGING) {
            x.call("update", 1, NONE, phase == CHANGING ? 1 : 0);
        }
        if (phase == STAMPING) {
            x.carryOut(3).answers(3);
        } else if (phase == WAITING || phase == CLEARING) {
            x.call("settle");
        }
        if (phase == CLEARING) {
            x.call("pass", 108).call("send", 0, 3).call("send", 2, 4).call("pass", 1);
        } else if (phase == ASKING) {
            x.call("update", 1, 0, 0).call("stop").call("start");
        }
        return x.call("restart", 2).call("deliver", 0, 0).call("deliver", 1, 0).call("deliver", 1, 1)
                .call("setLink", 1, 0).text("policy x { out 1 }").call("piece", 3).is(phase, "controllerAt", 0);
    }

    private static void refusedCalls(int phase, boolean isStopped) {
        Run x = busy(phase, phase,
                isStopped ? "the phase, stopped: nothing is changed" : "the phase: nothing is changed");
        if (isStopped) {
            x.call("stop").refuses(STATE, "stop").refuses(STATE, "answer", 0);
        } else {
            x.refuses(STATE, "start");
        }
        if (phase != IDLE) {
            x.refuses(STATE, "addSwitch").refuses(STATE, "addLink", 0, 3, 1, 3, 1).refuses(STATE, "addHost", 0, 3)
                    .refuses(STATE, "update", 1, NONE, 0);
            x.refuses(INDEX, "packetAt", 4, 0).refuses(INDEX, "copyAt", 0, 64, 0).refuses(INDEX, "isWhole", 4)
                    .refuses(INDEX, "updateAt", 2, 0);
            x.refuses(ARGUMENT, "packetAt", 0, 9).refuses(ARGUMENT, "copyAt", 0, 0, 9)
                    .refuses(ARGUMENT, "updateAt", 0, 7).refuses(INDEX, "isBy", 0, 3);
        }
        if (phase != ADDING || isStopped) {
            x.refuses(STATE, "cancel");
        }
        x.refuses(STATE, "build", 0).refuses(ARGUMENT, "build", 3).refuses(INDEX, "setLink", 2, 0)
                .refuses(INDEX, "restart", 3);
        x.refuses(INDEX, "addLink", 0, 3, 3, 3, 1).refuses(ARGUMENT, "addLink", 0, 3, 1, 6, 1)
                .refuses(INDEX, "addHost", 3, 3).refuses(ARGUMENT, "addHost", 2, 6);
        x.refuses(INDEX, "portAt", 3, 0).refuses(ARGUMENT, "portAt", 0, 6).refuses(ARGUMENT, "piece", 6);
        x.refuses(INDEX, "ruleAt", 0, 0, 9, 0).refuses(ARGUMENT, "ruleAt", 0, 0, 0, 3).refuses(INDEX, "rules", 3, 0)
                .refuses(ELEMENT, "actionAt", 0, 0, 0, 2, 0);
        x.refuses(INDEX, "has", 2, 0).refuses(ARGUMENT, "has", 0, 16384).refuses(INDEX, "reach", 3, 0, 0)
                .refuses(INDEX, "avoids", 0, 0, 0, 3).refuses(INDEX, "astray", 0, 3)
                .refuses(INDEX, "differsAt", 0, 3, 0);
        x.refuses(INDEX, "update", 3, NONE, 0).refuses(INDEX, "update", 0, 2, 0).refuses(ARGUMENT, "update", 0, NONE, 2)
                .refuses(ARGUMENT, "controllerAt", 9);
        x.refuses(INDEX, "deliver", 3, 0).refuses(ARGUMENT, "deliver", 0, 1001).refuses(ARGUMENT, "answer", 1001)
                .refuses(INDEX, "answerAt", 99, 0).refuses(INDEX, "messageAt", 0, 99, 0);
        x.refuses(ARGUMENT, "switchAt", 0, 5).refuses(INDEX, "tableAt", 0, 40, 0).refuses(INDEX, "stampAt", 0, 4, 0)
                .refuses(INDEX, "send", 3, 0).refuses(ARGUMENT, "send", 0, 16384);
        x.refuses(ARGUMENT, "pass", 0).refuses(ARGUMENT, "pass", 201).refuses(ELEMENT, "deliveredAt", 0, 99, 0)
                .refuses(ARGUMENT, "deliveredAt", 0, 0, 4).refuses(ARGUMENT, "count", 16);
        x.text("}").refuses(STATE, "load").questionsChangeNothing();
    }

    /** A switch has refused rules, which its BARRIER will tell. */
    private static void refusedBehindRefusedRules() {
        Run x = new Run(29, "rules that were refused are still told")
                .house(2, "policy a { if kind = 1 or kind = 2 or kind = 4 or kind = 7 { if mark = 1 or mark = 2 { out 1 } else { out 2 } } "
                + "else { if mark = 1 or mark = 2 { out 2 } else { out 1 } } } policy b { at 0 { out 1 } }")
                        .call("update", 0, NONE, 0).call("settle").call("setLink", 0, 0).call("update", 1, NONE, 0)
                        .is(0, "deliver", 0, 0);
        x.refuses(INDEX, "deliver", 3, 0).refuses(ARGUMENT, "deliver", 0, 1001).refuses(ARGUMENT, "deliver", 0, -1)
                .refuses(STATE, "update", 1, NONE, 0).refuses(STATE, "start");
        x.refuses(ARGUMENT, "messageAt", 0, 0, 4).refuses(ARGUMENT, "switchAt", 0, 5).refuses(ARGUMENT, "answer", -1)
                .questionsChangeNothing();
        x.is(4, "deliver", 0, 0).is(1, "answerAt", 0, 3).is(1, "cancel").refuses(STATE, "cancel").call("settle")
                .is(2, "updateAt", 1, 4);
    }
}
