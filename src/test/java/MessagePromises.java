/** Promises 29 to 36: messages, answers, and what is at the switches. */
public final class MessagePromises {
    private static final Due DUE = new Due();
    private static final int NONE = FlowHouse.NONE;
    private static final String THREE = "policy a { if mark = 0 .. 3 { out 1 } else { if mark = 4 .. 5 { out 2 | out 3 } else { out 0 } } }"
            + "policy b { if mark = 0 .. 3 { drop } else { out 1 | mark := 1 ; out 1 } } slice s { mark = 0 } slice t { any }";

    public static void main(String[] args) {
        deliver();
        kinds();
        answer();
        settle();
        answerAt();
        messageAt();
        switchAt();
        tableAt();
        stampAt();
        DUE.end("MessagePromises");
    }

    private static void deliver() {
        FlowHouse x = Due.house(2, THREE);
        DUE.is(29, "an empty inbox", x.deliver(0, 0), NONE);
        DUE.noIndex(29, "switch 3", () -> x.deliver(3, 0));
        DUE.noIndex(29, "switch -1", () -> x.deliver(-1, 1001));
        DUE.noArgument(29, "choice 1001", () -> x.deliver(0, 1001));
        DUE.noArgument(29, "choice -1", () -> x.deliver(0, -1));
        x.update(0, NONE, 0);
        DUE.is(34, "that can be carried out", x.switchAt(0, 3), 3);
        // of three: 1000 is the number 1
        DUE.is(29, "choice 1000", x.deliver(0, 1000), FlowHouse.ADD);
        DUE.is(29, "the rule", x.tableAt(0, 0, 2), 4);
        DUE.is(34, "that can be carried out", x.switchAt(0, 3), 2);
        DUE.is(29, "choice 3 of two", x.deliver(0, 3), FlowHouse.ADD);
        DUE.is(29, "the rule behind", x.tableAt(0, 1, 2), 6);
        DUE.is(29, "choice 3 of one", x.deliver(0, 3), FlowHouse.ADD);
        DUE.is(29, "the rule behind", x.tableAt(0, 2, 2), 0);
        DUE.is(29, "the BARRIER", x.deliver(0, 7), FlowHouse.BARRIER);
        DUE.is(29, "empty again", x.deliver(0, 7), NONE);
        // nothing goes past a BARRIER
        x.restart(1);
        x.answer(1);
        DUE.is(34, "a BARRIER alone", x.switchAt(1, 3), 1);
        DUE.is(29, "BARRIER 0 is first", x.deliver(1, 2), FlowHouse.BARRIER);
        DUE.is(34, "that can be carried out", x.switchAt(1, 3), 4);
        DUE.is(29, "STAMP is fourth", x.deliver(1, 3), FlowHouse.STAMP);
        DUE.is(29, "three are left", x.deliver(1, 3), FlowHouse.ADD);
    }

    private static void kinds() {
        FlowHouse x = Due.house(2, THREE);
        x.update(0, NONE, 0);
        x.settle();
        x.send(0, 1);
        x.send(0, 2);
        // ADD of a rule that is there: it gets the actions, and its count and place stay
        x.update(1, NONE, 1);
        DUE.is(29, "messages", x.switchAt(0, 2), 3 + 1 + 1 + 1);
        DUE.is(29, "REMOVE", x.deliver(0, 1), FlowHouse.REMOVE);
        DUE.is(35, "rules", x.switchAt(0, 0), 2);
        DUE.is(35, "the rule that is left", x.tableAt(0, 1, 1), 6);
        DUE.is(35, "its count", x.tableAt(0, 0, 4), 2);
        x.settle();
        DUE.is(35, "rules", x.switchAt(0, 0), 1);
        FlowHouse y = Due.house(2, THREE + "policy c { if mark = 0 .. 3 { out 1 | out 2 } else { out 1 } }");
        y.update(2, NONE, 0);
        y.settle();
        y.send(0, 0);
        y.send(0, 4);
        y.send(0, 5);
        DUE.is(35, "actions", y.tableAt(0, 1, 3), 1);
        y.update(1, NONE, 1);
        DUE.is(33, "messages", y.switchAt(0, 2), 1 + 1 + 1 + 1);
        y.deliver(0, 1);
        DUE.are(35, "the rule with new actions", i -> y.tableAt(0, 1, i), 0, 4, 4, 2, 2);
        y.deliver(0, 0);
        DUE.is(29, "REMOVE", y.switchAt(0, 0), 1);
        DUE.is(29, "STAMP", y.deliver(0, 0), FlowHouse.STAMP);
        DUE.is(36, "its policy", y.stampAt(0, 0, 2), 1);
        y.settle();
        // the full table: a rule that is there already is not refused
        FlowHouse z = Due.house(2, BIG);
        z.update(0, NONE, 0);
        z.settle();
        DUE.is(29, "no rules are left", z.switchAt(0, 0), 0);
        DUE.is(29, "it was refused", z.updateAt(0, 4), FlowHouse.WAS_REFUSED);
        z.update(0, NONE, 0);
        for (int i = 0; i < 40; i++) {
            z.deliver(0, 0);
        }
        z.stop();
        z.start();
        for (int i = 0; i < 20; i++) {
            z.deliver(0, 0);
        }
        DUE.is(29, "40 rules", z.switchAt(0, 0), 40);
        z.deliver(0, 0);
        DUE.are(32, "the answer", i -> z.answerAt(0, i), FlowHouse.DONE, 0, 3, 20);
        z.deliver(0, 0);
        DUE.are(32, "refused since the BARRIER before", i -> z.answerAt(1, i), FlowHouse.DONE, 0, 4, 0);
    }

    private static final String BIG = "policy big { if kind = 1 or kind = 2 or kind = 4 or kind = 7 { "
            + "if mark = 1 or mark = 2 or mark = 4 or mark = 7 { out 1 } else { out 2 } } else { "
            + "if mark = 2 or mark = 4 or mark = 7 { out 1 } else { out 2 } } }";

    private static void answer() {
        FlowHouse x = Due.house(2, THREE);
        DUE.is(30, "no answers", x.answer(0), NONE);
        DUE.noArgument(30, "choice -1", () -> x.answer(-1));
        DUE.noArgument(30, "choice 1001", () -> x.answer(1001));
        x.restart(0);
        x.restart(2);
        x.restart(1);
        DUE.is(30, "choice 1000 of three", x.answer(1000), FlowHouse.HELLO);
        DUE.is(30, "switch 2 is brought up", x.switchAt(2, 2), 2);
        DUE.is(30, "the others are left", x.answerAt(0, 1) * 10 + x.answerAt(1, 1), 1);
        x.deliver(2, 0);
        x.deliver(2, 0);
        DUE.is(30, "DONE is third", x.answer(2), FlowHouse.DONE);
        DUE.is(30, "it means nothing", x.controllerAt(0), FlowHouse.IDLE);
        x.stop();
        DUE.noArgument(30, "the argument goes ahead", () -> x.answer(1001));
        DUE.noState(30, "stopped", () -> x.answer(0));
    }

    private static void settle() {
        FlowHouse x = Due.house(2, THREE);
        DUE.is(31, "nothing", x.settle(), 0);
        x.update(0, NONE, 0);
        // 3 ADD and a BARRIER each, 3 answers; a STAMP and a BARRIER each, 3 answers
        DUE.is(31, "an update", x.settle(), 12 + 3 + 6 + 3);
        DUE.is(31, "nothing is left", x.count(13) + x.controllerAt(3), 0);
        DUE.is(31, "rules in order", x.tableAt(2, 1, 2), 4);
        x.update(1, NONE, 0);
        x.stop();
        DUE.is(31, "while it is stopped", x.settle(), 3 * 2);
        DUE.is(31, "answers", x.controllerAt(3), 0);
        DUE.is(31, "again", x.settle(), 0);
        x.start();
        x.restart(0);
        // BARRIER of 1 and 2; HELLO; DONE, DONE; a BARRIER; DONE; 3 brought up by 3 + 1 + 1 + 2; ...
        x.settle();
        DUE.is(31, "waits", x.controllerAt(0), FlowHouse.WAITING);
        x.restart(2);
        x.restart(1);
        DUE.is(31, "two brought up", x.settle(), 2 + 2 * (3 + 1 + 1 + 2) + 2 * 2);
        // the switch with the least number first, and messages ahead of answers
        x.restart(0);
        x.restart(1);
        x.answer(1);
        x.settle();
        DUE.is(31, "both are up", x.switchAt(0, 0) + x.switchAt(1, 0), 8);
    }

    private static void answerAt() {
        FlowHouse x = Due.house(2, THREE);
        DUE.noIndex(32, "no answer", () -> x.answerAt(0, 0));
        x.update(0, NONE, 0);
        for (int i = 0; i < 4; i++) {
            x.deliver(1, 0);
        }
        x.restart(2);
        DUE.are(32, "DONE", i -> x.answerAt(0, i), FlowHouse.DONE, 1, 1, 0);
        DUE.are(32, "HELLO", i -> x.answerAt(1, i), FlowHouse.HELLO, 2, 0, 0);
        DUE.noIndex(32, "answer 2", () -> x.answerAt(2, 4));
        DUE.noIndex(32, "answer -1", () -> x.answerAt(-1, 0));
        DUE.noArgument(32, "what 4", () -> x.answerAt(0, 4));
        DUE.noArgument(32, "what -1", () -> x.answerAt(0, -1));
    }

    private static void messageAt() {
        FlowHouse x = Due.house(2, THREE);
        DUE.noIndex(33, "no message", () -> x.messageAt(0, 0, 0));
        DUE.noIndex(33, "switch 3", () -> x.messageAt(3, 0, 0));
        x.update(0, 1, 0);
        DUE.are(33, "ADD", i -> x.messageAt(0, 1, i), FlowHouse.ADD, 0, 6, 4);
        DUE.are(33, "BARRIER", i -> x.messageAt(0, 3, i), FlowHouse.BARRIER, 1, 0, 0);
        DUE.noIndex(33, "message 4", () -> x.messageAt(0, 4, 9));
        DUE.noIndex(33, "message -1", () -> x.messageAt(0, -1, 0));
        DUE.noIndex(33, "switch -1", () -> x.messageAt(-1, 0, 0));
        DUE.noArgument(33, "what 4", () -> x.messageAt(0, 0, 4));
        DUE.noArgument(33, "what -1", () -> x.messageAt(0, 0, -1));
        x.settle();
        x.update(0, 0, 0);
        x.cancel();
        for (int at = 0; at < 3; at++) {
            for (int i = 0; i < 4; i++) {
                x.deliver(at, 0);
            }
        }
        x.answer(0);
        x.answer(0);
        x.answer(0);
        DUE.are(33, "CLEAR", i -> x.messageAt(1, 0, i), FlowHouse.CLEAR, 1, 0, 0);
        x.restart(1);
        x.answer(0);
        DUE.are(33, "STAMP", i -> x.messageAt(1, 3, i), FlowHouse.STAMP, 1, 0, 0);
        x.settle();
        x.update(1, NONE, 1);
        DUE.are(33, "REMOVE", i -> x.messageAt(1, 0, i), FlowHouse.REMOVE, 0, 4, 0);
    }

    private static void switchAt() {
        FlowHouse x = Due.house(2, THREE);
        x.update(0, NONE, 0);
        x.deliver(0, 0);
        DUE.are(34, "switchAt(0)", i -> x.switchAt(0, i), 1, 0, 3, 2, 0);
        x.deliver(0, 0);
        x.deliver(0, 0);
        DUE.are(34, "a BARRIER alone", i -> x.switchAt(0, i), 3, 0, 1, 1, 0);
        x.settle();
        DUE.are(34, "at the end", i -> x.switchAt(0, i), 3, 1, 0, 0, 0);
        x.restart(0);
        DUE.are(34, "restarted", i -> x.switchAt(0, i), 0, 0, 0, 0, 1);
        DUE.noIndex(34, "switch 3", () -> x.switchAt(3, 0));
        DUE.noIndex(34, "switch -1", () -> x.switchAt(-1, 5));
        DUE.noArgument(34, "what 5", () -> x.switchAt(0, 5));
        DUE.noArgument(34, "what -1", () -> x.switchAt(0, -1));
    }

    private static void tableAt() {
        FlowHouse x = Due.house(2, THREE);
        DUE.noIndex(35, "no rule", () -> x.tableAt(0, 0, 0));
        x.update(0, NONE, 0);
        x.settle();
        x.update(1, NONE, 0);
        x.settle();
        DUE.are(35, "rule 0", i -> x.tableAt(0, 0, i), 0, 4, 0, 1, 0);
        DUE.are(35, "rule 1", i -> x.tableAt(0, 1, i), 0, 6, 4, 2, 0);
        DUE.are(35, "rule 3", i -> x.tableAt(0, 3, i), 1, 4, 4, 2, 0);
        x.send(0, 4);
        DUE.is(35, "the count of the packet's tag", x.tableAt(0, 3, 4), 1);
        DUE.is(35, "the count of another tag", x.tableAt(0, 1, 4), 0);
        DUE.noIndex(35, "rule 4", () -> x.tableAt(0, 4, 9));
        DUE.noIndex(35, "rule -1", () -> x.tableAt(0, -1, 0));
        DUE.noIndex(35, "switch 3", () -> x.tableAt(3, 0, 0));
        DUE.noIndex(35, "switch -1", () -> x.tableAt(-1, 0, 0));
        DUE.noArgument(35, "what 5", () -> x.tableAt(0, 0, 5));
        DUE.noArgument(35, "what -1", () -> x.tableAt(0, 0, -1));
        x.pass(109);
        x.deliver(0, 0);
        DUE.is(35, "CLEAR", x.switchAt(0, 0), 1);
        DUE.is(35, "its tag", x.tableAt(0, 0, 0), 1);
    }

    private static void stampAt() {
        FlowHouse x = Due.house(2, THREE);
        DUE.noIndex(36, "no entry", () -> x.stampAt(0, 0, 0));
        x.update(0, 1, 0);
        x.settle();
        x.update(1, 0, 0);
        x.settle();
        DUE.are(36, "entry 0", i -> x.stampAt(0, 0, i), 0, 1, 1);
        DUE.are(36, "entry 1", i -> x.stampAt(0, 1, i), 1, 0, 0);
        DUE.noIndex(36, "entry 2", () -> x.stampAt(0, 2, 9));
        DUE.noIndex(36, "entry -1", () -> x.stampAt(0, -1, 0));
        DUE.noIndex(36, "switch 3", () -> x.stampAt(3, 0, 0));
        DUE.noIndex(36, "switch -1", () -> x.stampAt(-1, 0, 0));
        DUE.noArgument(36, "what 3", () -> x.stampAt(0, 0, 3));
        DUE.noArgument(36, "what -1", () -> x.stampAt(0, 0, -1));
        x.update(0, NONE, 0);
        x.settle();
        DUE.are(36, "the entry", i -> x.stampAt(2, 0, i), NONE, 2, 0);
        DUE.noIndex(36, "the entries before", () -> x.stampAt(2, 1, 0));
    }
}
