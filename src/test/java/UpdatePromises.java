/** Promises 23 to 28: updates, and the controller in its phases. */
public final class UpdatePromises {
    private static final Due DUE = new Due();
    private static final int NONE = FlowHouse.NONE;
    private static final int IDLE = FlowHouse.IDLE, ADDING = FlowHouse.ADDING, STAMPING = FlowHouse.STAMPING;
    private static final int WAITING = FlowHouse.WAITING, CLEARING = FlowHouse.CLEARING, CHANGING = FlowHouse.CHANGING;
    private static final int ASKING = FlowHouse.ASKING;

    /** One rule; two rules; three; one that only switch 1 has. */
    private static final String FOUR = "policy a { out 1 } policy b { if mark = 0 .. 3 { out 1 } else { out 0 } }"
            + "policy c { if mark = 0 .. 3 { out 1 } else { if mark = 4 .. 5 { out 2 } else { out 0 } } } policy d { at 1 { out 3 } }"
            + "slice s { mark = 0 } slice t { mark = 1 }";
    /** 60 rules, more than a table has room for. */
    private static final String BIG = "policy big { if kind = 1 or kind = 2 or kind = 4 or kind = 7 { "
            + "if mark = 1 or mark = 2 or mark = 4 or mark = 7 { out 1 } else { out 2 } } else { "
            + "if mark = 2 or mark = 4 or mark = 7 { out 1 } else { out 2 } } } policy a { out 1 }";

    /** 32 rules of odd and even numbers of bits in from, or in to, and the first bit of mark; and 9 rules. */
    private static final String ODD = "= 1 or F = 2 or F = 4 or F = 7 or F = 8 or F = 11 or F = 13 or F = 14 "
            + "{ if mark = 0 .. 3 { out 1 } else { out 2 } } else { if mark = 0 .. 3 { out 2 } else { out 1 } } } ";
    private static final String MANY = "policy a { if from " + ODD.replace("F", "from") + "policy b { if to " + ODD.replace("F", "to")
            + "policy nine { if in 0 { if mark = 1 or mark = 2 or mark = 4 or mark = 7 { out 1 } else { out 2 } } else { if in 1 { out 1 } } }"
            + "policy eight { if in 0 { if mark = 1 or mark = 2 or mark = 4 or mark = 7 { out 1 } else { out 2 } } }";

    public static void main(String[] args) {
        updateFails();
        updatesFollow();
        phases();
        waiting();
        slices();
        changing();
        refused();
        cancel();
        stopAndStart();
        startInEachPhase();
        rulesThatJustFit();
        hello();
        withoutSwitches();
        updateAt();
        controllerAt();
        DUE.end("UpdatePromises");
    }

    private static void controllerIs(int promise, FlowHouse x, int... due) {
        DUE.are(promise, "controllerAt", x::controllerAt, due);
    }

    private static void messagesAre(FlowHouse x, int at, int... due) {
        DUE.is(33, "messages of " + at, x.switchAt(at, 2), due.length / 2);
        for (int i = 0; i < due.length && i / 2 < x.switchAt(at, 2); i++) {
            DUE.is(33, "messageAt(" + at + ", " + i / 2 + ", " + i % 2 + ")", x.messageAt(at, i / 2, i % 2), due[i]);
        }
    }

    /** Carries out all messages; the answers stay. */
    private static void carryOutAll(FlowHouse x) {
        for (int at = 0; at < x.count(1); at++) {
            for (int i = 0; i < 500 && x.deliver(at, 0) != NONE; i++) {
            }
        }
    }

    private static void updateFails() {
        FlowHouse none = new FlowHouse();
        DUE.noIndex(23, "no policy", () -> none.update(0, NONE, 0));
        Due.type(none, FOUR);
        none.load();
        DUE.noState(23, "no switch", () -> none.update(0, NONE, 0));
        FlowHouse x = Due.house(2, FOUR);
        DUE.noIndex(23, "policy 4", () -> x.update(4, NONE, 0));
        DUE.noIndex(23, "policy -1", () -> x.update(-1, NONE, 5));
        DUE.noIndex(23, "slice 2", () -> x.update(0, 2, 0));
        DUE.noIndex(23, "slice -2", () -> x.update(0, -2, 7));
        DUE.noArgument(23, "mode 2", () -> x.update(0, NONE, 2));
        DUE.noArgument(23, "mode -1", () -> x.update(0, NONE, -1));
        DUE.noArgument(23, "mode 1 with a slice", () -> x.update(0, 0, 1));
        DUE.noState(23, "mode 1 without a tag in use", () -> x.update(0, NONE, 1));
        DUE.is(23, "nothing was begun", x.count(6), 0);
        x.stop();
        DUE.noArgument(23, "the argument goes ahead", () -> x.update(0, NONE, 2));
        DUE.noState(23, "stopped", () -> x.update(0, NONE, 0));
        x.start();
        DUE.noState(23, "ASKING", () -> x.update(0, NONE, 0));
        x.settle();
        DUE.is(23, "update", x.update(0, NONE, 0), 0);
        DUE.noState(23, "ADDING", () -> x.update(1, NONE, 0));
        DUE.noState(23, "ADDING", () -> x.update(1, NONE, 1));
    }

    private static void updatesFollow() {
        FlowHouse x = Due.house(2, FOUR);
        for (int i = 0; i < 20; i++) {
            DUE.is(23, "update", x.update(0, NONE, 0), i);
            x.cancel();
            x.settle();
        }
        DUE.noState(23, "a 21st update", () -> x.update(0, NONE, 0));
    }

    private static void phases() {
        FlowHouse x = Due.house(2, FOUR);
        x.pass(5);
        DUE.is(23, "update", x.update(1, NONE, 0), 0);
        controllerIs(23, x, ADDING, 1, 0, 0, 0, 0, NONE, 1, 0);
        for (int at = 0; at < 3; at++) {
            messagesAre(x, at, FlowHouse.ADD, 0, FlowHouse.ADD, 0, FlowHouse.BARRIER, 1);
            DUE.is(33, "mask", x.messageAt(at, 0, 2), 4);
            DUE.is(33, "value", x.messageAt(at, 0, 3), 0);
            DUE.is(33, "mask", x.messageAt(at, 1, 2), 4);
            DUE.is(33, "value", x.messageAt(at, 1, 3), 4);
            DUE.is(33, "mask of a BARRIER", x.messageAt(at, 2, 2), 0);
        }
        carryOutAll(x);
        controllerIs(28, x, ADDING, 1, 0, 3, 0, 0, NONE, 1, 0);
        x.answer(2);
        x.answer(0);
        controllerIs(28, x, ADDING, 1, 2, 1, 0, 0, NONE, 1, 0);
        x.pass(1);
        x.answer(0);
        controllerIs(23, x, STAMPING, 2, 0, 0, 0, 1, NONE, 1, 0);
        for (int at = 0; at < 3; at++) {
            messagesAre(x, at, FlowHouse.STAMP, 1, FlowHouse.BARRIER, 2);
        }
        DUE.are(27, "updateAt", i -> x.updateAt(0, i), 1, NONE, 0, 0, FlowHouse.GOES_ON, 5, NONE);
        x.pass(1);
        x.settle();
        controllerIs(23, x, IDLE, 0, 0, 0, 0, 1, NONE, 1, 0);
        DUE.are(27, "updateAt", i -> x.updateAt(0, i), 1, NONE, 0, 0, FlowHouse.ENDED, 5, 7);
    }

    private static void waiting() {
        FlowHouse x = Due.house(2, FOUR);
        x.update(0, NONE, 0);
        x.settle();
        x.pass(3);
        DUE.is(23, "update", x.update(1, NONE, 0), 1);
        controllerIs(23, x, ADDING, 3, 0, 0, 0, 1, NONE, 3, 0);
        x.settle();
        controllerIs(23, x, WAITING, 0, 0, 0, 0, 1, 3, 3, 1);
        DUE.noState(23, "WAITING", () -> x.update(0, NONE, 0));
        x.pass(108);
        controllerIs(23, x, WAITING, 0, 0, 0, 0, 1, 3, 3, 1);
        x.pass(1);
        controllerIs(23, x, CLEARING, 5, 0, 0, 0, 1, NONE, 2, 1);
        messagesAre(x, 0, FlowHouse.CLEAR, 0, FlowHouse.BARRIER, 5);
        x.settle();
        controllerIs(23, x, IDLE, 0, 0, 0, 0, 1, NONE, 2, 0);
        DUE.are(27, "updateAt", i -> x.updateAt(1, i), 1, NONE, 0, 1, FlowHouse.ENDED, 3, 112);
        DUE.is(23, "rules that are left", x.switchAt(0, 0), 2);
        DUE.is(23, "their tag", x.tableAt(0, 0, 0), 1);
        // the least tag that is not in use
        x.update(2, NONE, 0);
        DUE.is(23, "the tag of update 2", x.updateAt(2, 3), 0);
    }

    private static void slices() {
        FlowHouse x = Due.house(2, FOUR);
        x.update(0, 0, 0);
        x.settle();
        controllerIs(23, x, IDLE, 0, 0, 0, 0, 1, NONE, 1, 0);
        x.update(1, 1, 0);
        x.settle();
        DUE.are(36, "entry 0", i -> x.stampAt(2, 0, i), 1, 1, 1);
        DUE.are(36, "entry 1", i -> x.stampAt(2, 1, i), 0, 0, 0);
        x.update(2, 1, 0);
        x.settle();
        controllerIs(23, x, IDLE, 0, 0, 0, 0, 3, NONE, 7, 0);
        DUE.are(36, "entry 0", i -> x.stampAt(0, 0, i), 1, 2, 2);
        DUE.are(36, "entry 2", i -> x.stampAt(0, 2, i), 0, 0, 0);
        DUE.noState(23, "a slice with three tags in use", () -> x.update(0, 0, 0));
        DUE.noState(23, "mode 1 with three tags in use", () -> x.update(0, NONE, 1));
        x.update(3, NONE, 0);
        x.settle();
        controllerIs(23, x, WAITING, 0, 0, 0, 0, 1, 0, 15, 7);
        x.pass(109);
        controllerIs(23, x, CLEARING, 9, 0, 0, 0, 1, NONE, 8, 7);
        messagesAre(x, 1, FlowHouse.CLEAR, 0, FlowHouse.CLEAR, 1, FlowHouse.CLEAR, 2, FlowHouse.BARRIER, 9);
        x.settle();
        DUE.is(23, "rules of switch 0", x.switchAt(0, 0), 0);
        DUE.is(23, "rules of switch 1", x.switchAt(1, 0), 1);
        DUE.are(36, "the entry", i -> x.stampAt(1, 0, i), NONE, 3, 3);
    }

    private static void changing() {
        FlowHouse x = Due.house(2, FOUR);
        x.update(1, 0, 0);
        x.settle();
        x.send(0, 0);
        DUE.is(35, "a count", x.tableAt(0, 0, 4), 1);
        DUE.is(23, "update in mode 1", x.update(2, NONE, 1), 1);
        controllerIs(23, x, CHANGING, 3, 0, 0, 0, 1, NONE, 1, 0);
        messagesAre(x, 0, FlowHouse.REMOVE, 0, FlowHouse.ADD, 0, FlowHouse.ADD, 0, FlowHouse.ADD, 0, FlowHouse.STAMP, 1, FlowHouse.BARRIER, 3);
        DUE.is(33, "the mask of REMOVE", x.messageAt(0, 0, 2), 4);
        DUE.is(33, "the value of REMOVE", x.messageAt(0, 0, 3), 4);
        x.settle();
        controllerIs(23, x, IDLE, 0, 0, 0, 0, 1, NONE, 1, 0);
        DUE.are(27, "updateAt", i -> x.updateAt(1, i), 2, NONE, 1, 0, FlowHouse.ENDED, 0, 0);
        DUE.is(23, "rules", x.switchAt(0, 0), 3);
        DUE.is(35, "the count stays", x.tableAt(0, 0, 4), 1);
        DUE.are(36, "the entry", i -> x.stampAt(0, 0, i), 0, 0, 2);
        x.update(3, NONE, 1);
        messagesAre(x, 0, FlowHouse.REMOVE, 0, FlowHouse.REMOVE, 0, FlowHouse.REMOVE, 0, FlowHouse.STAMP, 1, FlowHouse.BARRIER, 4);
        DUE.are(33, "values of REMOVE in order", i -> x.messageAt(0, i, 3), 0, 4, 6);
        DUE.noState(24, "cancel in CHANGING", x::cancel);
        x.settle();
        DUE.is(23, "rules of switch 0", x.switchAt(0, 0), 0);
        DUE.is(23, "rules of switch 1", x.switchAt(1, 0), 1);
        // refused: the tables stay as they are
        FlowHouse y = Due.house(2, BIG);
        y.update(1, NONE, 0);
        y.settle();
        y.update(0, NONE, 1);
        y.settle();
        DUE.is(23, "refused", y.updateAt(1, 4), FlowHouse.WAS_REFUSED);
        DUE.is(23, "rules", y.switchAt(0, 0), 40);
        controllerIs(23, y, IDLE, 0, 0, 0, 0, 1, NONE, 1, 0);
    }

    private static void refused() {
        FlowHouse x = Due.house(2, BIG);
        x.update(1, NONE, 0);
        x.settle();
        x.update(0, NONE, 0);
        carryOutAll(x);
        DUE.is(32, "refused rules", x.answerAt(0, 3), 21);
        DUE.is(35, "rules", x.switchAt(0, 0), 40);
        DUE.noIndex(35, "rule 40", () -> x.tableAt(0, 40, 0));
        x.answer(0);
        x.answer(0);
        controllerIs(23, x, ADDING, 3, 2, 1, 0, 1, NONE, 3, 0);
        x.answer(0);
        controllerIs(23, x, CLEARING, 4, 0, 0, 0, 1, NONE, 1, 2);
        messagesAre(x, 0, FlowHouse.CLEAR, 1, FlowHouse.BARRIER, 4);
        DUE.is(27, "it goes on", x.updateAt(1, 4), FlowHouse.GOES_ON);
        x.settle();
        DUE.is(27, "refused", x.updateAt(1, 4), FlowHouse.WAS_REFUSED);
        DUE.is(27, "over", x.updateAt(1, 6), 0);
        DUE.is(35, "rules", x.switchAt(0, 0), 1);
        controllerIs(23, x, IDLE, 0, 0, 0, 0, 1, NONE, 1, 0);
        // refused and cancelled
        x.update(0, NONE, 0);
        x.cancel();
        x.settle();
        DUE.is(24, "refused, though cancelled", x.updateAt(2, 4), FlowHouse.WAS_REFUSED);
        // that one was refused does not matter for the next one
        x.update(1, NONE, 0);
        x.settle();
        DUE.is(23, "the next one", x.controllerAt(0), WAITING);
        // one switch suffices
        FlowHouse y = Due.house(2, BIG.replace("{ if kind", "{ at 1 { if kind").replace("} } } policy", "} } } } policy"));
        y.update(0, NONE, 0);
        y.settle();
        DUE.is(23, "refused by switch 1", y.updateAt(0, 4), FlowHouse.WAS_REFUSED);
    }

    private static void cancel() {
        FlowHouse x = Due.house(2, FOUR);
        DUE.noState(24, "IDLE", x::cancel);
        x.update(0, NONE, 0);
        x.settle();
        x.pass(1);
        x.update(1, NONE, 0);
        DUE.is(24, "cancel", x.cancel(), 1);
        DUE.noState(24, "a second time", x::cancel);
        controllerIs(24, x, ADDING, 3, 0, 0, 0, 1, NONE, 3, 0);
        carryOutAll(x);
        x.answer(0);
        x.answer(0);
        x.answer(0);
        controllerIs(24, x, CLEARING, 4, 0, 0, 0, 1, NONE, 1, 2);
        DUE.noState(24, "CLEARING", x::cancel);
        x.settle();
        DUE.are(27, "updateAt", i -> x.updateAt(1, i), 1, NONE, 0, 1, FlowHouse.WAS_CANCELLED, 1, 1);
        DUE.is(24, "rules", x.switchAt(0, 0), 1);
        x.update(2, NONE, 0);
        x.stop();
        DUE.noState(24, "stopped", x::cancel);
        x.start();
        DUE.noState(24, "ASKING", x::cancel);
        ask(x);
        DUE.is(24, "ADDING again", x.cancel(), 2);
        FlowHouse y = Due.house(2, FOUR);
        y.update(0, NONE, 0);
        carryOutAll(y);
        y.answer(0);
        y.answer(0);
        y.answer(0);
        DUE.is(24, "the phase", y.controllerAt(0), STAMPING);
        DUE.noState(24, "STAMPING", y::cancel);
    }

    private static void stopAndStart() {
        FlowHouse x = Due.house(2, FOUR);
        DUE.noState(26, "start ahead of stop", x::start);
        DUE.is(25, "no answers", x.stop(), 0);
        DUE.noState(25, "stop again", x::stop);
        controllerIs(25, x, IDLE, 0, 0, 0, 1, 0, NONE, 0, 0);
        x.restart(1);
        controllerIs(25, x, IDLE, 0, 0, 0, 1, 0, NONE, 0, 0);
        DUE.is(26, "start", x.start(), IDLE);
        controllerIs(26, x, ASKING, 1, 0, 0, 0, 0, NONE, 0, 0);
        DUE.noState(26, "start again", x::start);
        messagesAre(x, 0, FlowHouse.BARRIER, 1);
        x.deliver(0, 0);
        x.deliver(1, 0);
        x.deliver(2, 0);
        x.answer(0);
        controllerIs(26, x, ASKING, 1, 1, 2, 0, 0, NONE, 0, 0);
        DUE.is(25, "stop in ASKING", x.stop(), 2);
        controllerIs(25, x, ASKING, 1, 1, 0, 1, 0, NONE, 0, 0);
        DUE.is(26, "the phase that follows", x.start(), IDLE);
        controllerIs(26, x, ASKING, 2, 0, 0, 0, 0, NONE, 0, 0);
        carryOutAll(x);
        x.answer(0);
        x.answer(0);
        x.answer(0);
        controllerIs(26, x, IDLE, 0, 0, 0, 0, 0, NONE, 0, 0);
        messagesAre(x, 0, FlowHouse.STAMP, 0, FlowHouse.BARRIER, 0);
        // what the controller has not handled is lost, and so is what comes
        FlowHouse y = Due.house(2, FOUR);
        y.update(2, NONE, 0);
        y.deliver(0, 0);
        y.deliver(0, 0);
        y.deliver(0, 0);
        y.deliver(0, 0);
        DUE.is(25, "one answer is lost", y.stop(), 1);
        carryOutAll(y);
        controllerIs(25, y, ADDING, 1, 0, 0, 1, 0, NONE, 1, 0);
        DUE.is(26, "start", y.start(), ADDING);
        DUE.is(26, "settle", y.settle(), 3 + 3 + 3 * (6 + 4) + 3 * 3 + 3 * 2 + 3);
        DUE.is(26, "ended", y.updateAt(0, 4), FlowHouse.ENDED);
    }

    private static void startInEachPhase() {
        FlowHouse x = Due.house(2, FOUR);
        x.update(0, NONE, 0);
        x.settle();
        x.update(1, NONE, 0);
        x.cancel();
        carryOutAll(x);
        x.stop();
        DUE.is(26, "start in ADDING", x.start(), ADDING);
        DUE.is(26, "its list", x.controllerAt(5), 1);
        ask(x);
        controllerIs(26, x, ADDING, 5, 0, 0, 0, 1, NONE, 3, 0);
        messagesAre(x, 0, FlowHouse.ADD, 0, FlowHouse.BARRIER, 0, FlowHouse.ADD, 1, FlowHouse.ADD, 1, FlowHouse.STAMP, 1, FlowHouse.BARRIER, 0,
                FlowHouse.ADD, 1, FlowHouse.ADD, 1, FlowHouse.BARRIER, 5);
        carryOutAll(x);
        for (int i = 0; i < 9; i++) {
            x.answer(0);
        }
        controllerIs(26, x, CLEARING, 6, 0, 0, 0, 1, NONE, 1, 2);
        x.stop();
        controllerIs(25, x, CLEARING, 6, 0, 0, 1, 1, NONE, 1, 2);
        DUE.is(26, "start in CLEARING", x.start(), CLEARING);
        DUE.is(28, "tags to be cleared in ASKING", x.controllerAt(8), 0);
        ask(x);
        controllerIs(26, x, CLEARING, 8, 0, 0, 0, 1, NONE, 1, 2);
        messagesAre(x, 0, FlowHouse.ADD, 0, FlowHouse.STAMP, 1, FlowHouse.BARRIER, 0, FlowHouse.CLEAR, 1, FlowHouse.BARRIER, 8);
        x.settle();
        DUE.is(26, "still known to be cancelled", x.updateAt(1, 4), FlowHouse.WAS_CANCELLED);
        // STAMPING: the entry is not put into the list once more
        x.update(2, 0, 0);
        carryOutAll(x);
        x.answer(0);
        x.answer(0);
        x.answer(0);
        DUE.is(26, "the phase", x.controllerAt(0), STAMPING);
        x.stop();
        DUE.is(26, "start in STAMPING", x.start(), STAMPING);
        ask(x);
        controllerIs(26, x, STAMPING, 11 + 1, 0, 0, 0, 2, NONE, 3, 0);
        x.settle();
        DUE.is(26, "entries", x.switchAt(0, 1), 2);
        // WAITING begins anew, and does not go on while the controller is stopped
        x.update(0, NONE, 0);
        x.settle();
        x.pass(100);
        controllerIs(26, x, WAITING, 0, 0, 0, 0, 1, 0, 7, 3);
        x.stop();
        x.pass(100);
        controllerIs(25, x, WAITING, 0, 0, 0, 1, 1, 0, 7, 3);
        DUE.is(26, "start in WAITING", x.start(), WAITING);
        DUE.is(28, "since when, in ASKING", x.controllerAt(6), NONE);
        x.pass(5);
        x.settle();
        controllerIs(26, x, WAITING, 0, 0, 0, 0, 1, 205, 7, 3);
        x.pass(108);
        DUE.is(26, "the phase", x.controllerAt(0), WAITING);
        x.pass(1);
        DUE.is(26, "the phase", x.controllerAt(0), CLEARING);
        x.settle();
        DUE.is(26, "ended", x.updateAt(3, 4), FlowHouse.ENDED);
        // CHANGING: the same messages
        x.update(1, NONE, 1);
        x.stop();
        DUE.is(26, "start in CHANGING", x.start(), CHANGING);
        x.deliver(0, 0);
        for (int at = 0; at < 3; at++) {
            x.restart(at);
        }
        x.settle();
        DUE.is(26, "ended", x.updateAt(4, 4), FlowHouse.ENDED);
        DUE.is(26, "rules", x.switchAt(0, 0), 2);
        refusedAndStopped();
    }

    /** That rules were refused is known behind a stop only in CLEARING. */
    private static void refusedAndStopped() {
        FlowHouse x = Due.house(2, BIG);
        x.update(0, NONE, 0);
        carryOutAll(x);
        x.answer(0);
        x.answer(0);
        x.answer(0);
        DUE.is(25, "the phase", x.controllerAt(0), CLEARING);
        x.stop();
        x.start();
        x.settle();
        DUE.is(26, "refused, behind a stop", x.updateAt(0, 4), FlowHouse.WAS_REFUSED);
        FlowHouse y = Due.house(2, BIG.replace("{ if kind", "{ at 0 { if kind").replace("} } } policy", "} } } } policy"));
        y.update(0, NONE, 0);
        carryOutAll(y);
        y.answer(0);
        y.cancel();
        y.stop();
        y.restart(0);
        y.start();
        // only the round of ADDING tells; by then the table of switch 0 is full of the rules that brought it up
        y.settle();
        DUE.is(26, "refused once more", y.updateAt(0, 4), FlowHouse.WAS_REFUSED);
    }

    private static void rulesThatJustFit() {
        FlowHouse x = Due.house(2, MANY);
        DUE.is(16, "the rules of a", x.rules(0, 0), 32);
        DUE.is(16, "the rules of nine", x.rules(2, 0), 9);
        x.update(0, NONE, 0);
        x.settle();
        x.update(2, NONE, 0);
        x.settle();
        DUE.is(23, "one rule too many", x.updateAt(1, 4), FlowHouse.WAS_REFUSED);
        x.update(3, NONE, 0);
        x.settle();
        DUE.is(23, "40 rules", x.switchAt(0, 0), 40);
        DUE.is(23, "none was refused", x.controllerAt(0), WAITING);
        // in mode 1, rules that are added ahead of those that are removed may not fit
        FlowHouse y = Due.house(2, MANY);
        y.update(0, NONE, 0);
        y.settle();
        y.update(1, NONE, 1);
        y.stop();
        y.start();
        ask(y);
        y.settle();
        DUE.is(23, "removed first", y.updateAt(1, 4), FlowHouse.ENDED);
        FlowHouse z = Due.house(2, MANY);
        z.update(0, NONE, 0);
        z.settle();
        z.update(1, NONE, 1);
        for (int i = 0; i < 32; i++) {
            DUE.is(29, "ADD", z.deliver(0, 32), FlowHouse.ADD);
        }
        carryOutAll(z);
        DUE.are(32, "the answer", i -> z.answerAt(0, i), FlowHouse.DONE, 0, 3, 24);
        z.answer(0);
        z.stop();
        z.start();
        z.settle();
        DUE.is(26, "refused is not known behind a stop", z.updateAt(1, 4), FlowHouse.ENDED);
        DUE.is(26, "all rules are there", z.switchAt(0, 0), 32);
    }

    /** Lets the round of ASKING end; what is sent then stays. */
    private static void ask(FlowHouse x) {
        carryOutAll(x);
        for (int i = 0; i < 50 && x.controllerAt(0) == ASKING; i++) {
            x.answer(0);
        }
    }

    private static void hello() {
        FlowHouse x = Due.house(2, FOUR);
        x.restart(0);
        x.answer(0);
        messagesAre(x, 0, FlowHouse.STAMP, 0, FlowHouse.BARRIER, 0);
        x.settle();
        x.update(0, NONE, 0);
        x.settle();
        x.restart(0);
        x.answer(0);
        messagesAre(x, 0, FlowHouse.ADD, 0, FlowHouse.STAMP, 1, FlowHouse.BARRIER, 0);
        x.settle();
        x.update(1, 0, 0);
        carryOutAll(x);
        x.answer(1);
        x.restart(0);
        x.restart(1);
        x.answer(1);
        x.answer(1);
        messagesAre(x, 0, FlowHouse.ADD, 0, FlowHouse.BARRIER, 0, FlowHouse.ADD, 1, FlowHouse.ADD, 1, FlowHouse.STAMP, 1, FlowHouse.BARRIER, 3);
        DUE.is(30, "switch 1 counts as answered", x.controllerAt(2), 1);
        x.answer(0);
        DUE.is(30, "switch 2 has answered", x.controllerAt(2), 2);
        x.deliver(0, 0);
        x.deliver(0, 0);
        DUE.is(30, "the first BARRIER", x.answerAt(0, 2), 0);
        x.answer(0);
        DUE.is(30, "0 is no round", x.controllerAt(2), 2);
        for (int i = 0; i < 4; i++) {
            x.deliver(0, 0);
        }
        x.answer(0);
        controllerIs(30, x, STAMPING, 4, 0, 0, 0, 2, NONE, 3, 0);
        messagesAre(x, 1, FlowHouse.ADD, 0, FlowHouse.BARRIER, 0, FlowHouse.ADD, 1, FlowHouse.ADD, 1, FlowHouse.STAMP, 1, FlowHouse.BARRIER, 3,
                FlowHouse.STAMP, 2, FlowHouse.BARRIER, 4);
        x.settle();
        DUE.is(30, "ended", x.updateAt(1, 4), FlowHouse.ENDED);
        // ASKING: only a BARRIER
        x.stop();
        x.start();
        x.restart(2);
        x.answer(0);
        messagesAre(x, 2, FlowHouse.BARRIER, 5);
        x.settle();
        DUE.is(30, "brought up", x.switchAt(2, 0), 3);
        // CLEARING of the new tag: it is not in use, so there is no BARRIER ahead
        x.update(2, NONE, 0);
        x.cancel();
        carryOutAll(x);
        x.answer(0);
        x.answer(0);
        x.answer(0);
        x.restart(1);
        x.answer(0);
        messagesAre(x, 1, FlowHouse.ADD, 0, FlowHouse.ADD, 1, FlowHouse.ADD, 1, FlowHouse.STAMP, 2, FlowHouse.BARRIER, 7);
        x.settle();
        // WAITING: its tag is last, and there is no round
        x.update(2, NONE, 0);
        x.settle();
        x.restart(1);
        x.answer(0);
        DUE.is(30, "the phase", x.controllerAt(0), WAITING);
        messagesAre(x, 1, FlowHouse.ADD, 0, FlowHouse.ADD, 1, FlowHouse.ADD, 1, FlowHouse.BARRIER, 0, FlowHouse.ADD, 2, FlowHouse.ADD, 2, FlowHouse.ADD, 2,
                FlowHouse.STAMP, 1, FlowHouse.BARRIER, 0);
    }

    private static void withoutSwitches() {
        FlowHouse x = new FlowHouse();
        x.stop();
        DUE.is(26, "start without switches", x.start(), IDLE);
        controllerIs(26, x, IDLE, 0, 0, 0, 0, 0, NONE, 0, 0);
        x.addSwitch();
        x.stop();
        x.start();
        controllerIs(26, x, ASKING, 2, 0, 0, 0, 0, NONE, 0, 0);
        x.addSwitch();
        x.settle();
        controllerIs(26, x, ASKING, 2, 1, 0, 0, 0, NONE, 0, 0);
        x.restart(1);
        x.settle();
        controllerIs(26, x, IDLE, 0, 0, 0, 0, 0, NONE, 0, 0);
    }

    private static void updateAt() {
        FlowHouse x = Due.house(2, FOUR);
        DUE.noIndex(27, "no update", () -> x.updateAt(0, 0));
        x.update(2, 1, 0);
        DUE.are(27, "updateAt", i -> x.updateAt(0, i), 2, 1, 0, 0, FlowHouse.GOES_ON, 0, NONE);
        DUE.noIndex(27, "update 1", () -> x.updateAt(1, 0));
        DUE.noIndex(27, "update -1", () -> x.updateAt(-1, 7));
        DUE.noArgument(27, "what 7", () -> x.updateAt(0, 7));
        DUE.noArgument(27, "what -1", () -> x.updateAt(0, -1));
    }

    private static void controllerAt() {
        FlowHouse x = new FlowHouse();
        DUE.noArgument(28, "what 9", () -> x.controllerAt(9));
        DUE.noArgument(28, "what -1", () -> x.controllerAt(-1));
        DUE.noArgument(28, "what MIN", () -> x.controllerAt(Integer.MIN_VALUE));
    }
}
