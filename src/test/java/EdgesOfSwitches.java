import java.util.ArrayList;
import java.util.List;

/** The boundaries that section 6 and the promises 29 to 36 name: tables, stamp lists, messages, answers. */
public final class EdgesOfSwitches {
    private static final int NONE = -1;
    private static final int MAX = Integer.MAX_VALUE, MIN = Integer.MIN_VALUE;
    private static final int ADD = 0, REMOVE = 1, CLEAR = 2, STAMP = 3, BARRIER = 4;
    private static final int DONE = 0, HELLO = 1;
    private static final Class<? extends RuntimeException> INDEX = Run.INDEX, ARGUMENT = Run.ARGUMENT,
            STATE = Run.STATE;

    /** Three rules, with the values 0, 4 and 6; one rule; none. */
    private static final String THREE = "policy a { if mark = 0 .. 3 { out 1 } else { if mark = 4 .. 5 { out 2 } else { out 0 } } }"
            + "policy b { out 1 } policy c { drop } slice s { any } slice t { mark = 0 }";
    private static final String ODD = "kind = 1 or kind = 2 or kind = 4 or kind = 7";
    /** Five rules of the marks for each of eight kinds. */
    private static final String FORTY = "if " + ODD
            + " { if mark = 1 or mark = 2 { out 1 } else { out 2 } } else { if mark = 1 or mark = 2 { out 2 } else { out 1 } }";
    private static final String FORTY_ONE = "if in 0 { " + FORTY + " } else { if in 1 { out 3 } }";

    public static void main(String[] args) {
        emptyAtFirst();
        choiceOfAMessage();
        choiceOfBarriers();
        choiceOfAnAnswer();
        emptyInboxes();
        fortyRules();
        fullTables();
        rulesThatAreThere();
        refusedSinceTheBarrierBefore();
        refusedSinceTheRestart();
        removeAndClear();
        stampLists();
        fourTags();
        restarts();
        settles();
        numbersOfAnswers();
        numbersOfMessages();
        numbersOfSwitches();
        numbersOfRules();
        numbersOfEntries();
        Run.end("EdgesOfSwitches");
    }

    private static Run house(int promise, String sentence) {
        return new Run(promise, sentence).house(2, THREE);
    }

    private static void emptyAtFirst() {
        Run x = house(34, "the table and the stamp list are empty at first, and so is the inbox");
        for (int at = 0; at < 3; at++) {
            x.are("switchAt", Run.of(at), 0, 0, 0, 0, 0).refuses(INDEX, "tableAt", at, 0, 0)
                    .refuses(INDEX, "stampAt", at, 0, 0);
            x.refuses(INDEX, "messageAt", at, 0, 0);
        }
        x.refuses(INDEX, "answerAt", 0, 0);
    }

    // ---- promises 29 and 30: the choice

    private static void choiceOfAMessage() {
        for (int choice : new int[] {0, 1, 2, 3, 4, 5, 6, 998, 999, 1000}) {
            Run x = house(29, "the number of the choice modulo how many can be carried out").call("update", 0, NONE, 0);
            List<Integer> left = new ArrayList<>(List.of(0, 4, 6));
            for (int rule = 0; rule < 3; rule++) {
                for (int i = 0; i < left.size(); i++) {
                    x.is(left.get(i), "messageAt", 0, i, 3);
                }
                x.is(left.size(), "switchAt", 0, 3).is(ADD, "deliver", 0, choice)
                        .is(left.remove(choice % left.size()), "tableAt", 0, rule, 2);
            }
            x.is(1, "switchAt", 0, 3).is(BARRIER, "deliver", 0, choice).is(0, "switchAt", 0, 3)
                    .is(NONE, "deliver", 0, choice);
            x.is(0, "switchAt", 1, 0).is(4, "switchAt", 1, 2);
        }
        Run x = house(29, "choice is 0 to 1000").call("update", 0, NONE, 0);
        x.refuses(INDEX, "deliver", -1, 0).refuses(INDEX, "deliver", 3, 0).refuses(INDEX, "deliver", MAX, 0)
                .refuses(INDEX, "deliver", 3, 1001);
        x.refuses(ARGUMENT, "deliver", 0, -1).refuses(ARGUMENT, "deliver", 0, 1001).refuses(ARGUMENT, "deliver", 2, MAX)
                .refuses(ARGUMENT, "deliver", 1, MIN);
        x.refuses(INDEX, "deliver", -1, -1).is(12, "count", 13);
    }

    private static void choiceOfBarriers() {
        Run x = house(29, "no message goes past a BARRIER, nor a BARRIER past what is ahead of it")
                .call("update", 0, NONE, 0);
        x.call("restart", 0).is(HELLO, "answer", 0);
        x.is(BARRIER, "messageAt", 0, 0, 0).is(ADD, "messageAt", 0, 3, 0).is(STAMP, "messageAt", 0, 4, 0)
                .is(BARRIER, "messageAt", 0, 5, 0);
        x.is(6, "switchAt", 0, 2).is(1, "switchAt", 0, 3).is(BARRIER, "deliver", 0, 1).is(4, "switchAt", 0, 3);
        x.is(ADD, "deliver", 0, 4).is(STAMP, "deliver", 0, 2).is(2, "switchAt", 0, 3).is(ADD, "deliver", 0, 3)
                .is(1, "switchAt", 0, 3);
        x.is(ADD, "deliver", 0, 1).is(1, "switchAt", 0, 3).is(BARRIER, "deliver", 0, 1000).is(NONE, "deliver", 0, 1000);
        // two BARRIERs one behind the other
        Run y = house(29, "of two BARRIERs the first one").call("stop").call("start").call("stop").call("start");
        y.is(2, "switchAt", 1, 2).is(1, "switchAt", 1, 3).is(BARRIER, "deliver", 1, 1).is(1, "answerAt", 0, 2);
        y.is(BARRIER, "deliver", 1, 0).is(2, "answerAt", 1, 2).is(0, "switchAt", 1, 3);
    }

    private static void choiceOfAnAnswer() {
        int[] order = {2, 0, 1};
        for (int choice : new int[] {0, 1, 2, 3, 4, 5, 999, 1000}) {
            Run x = house(30, "the number of the choice modulo how many answers there are");
            x.call("restart", 2).call("restart", 0).call("restart", 1).is(HELLO, "answer", choice);
            for (int i = 0; i < 3; i++) {
                x.is(i == choice % 3 ? 2 : 0, "switchAt", order[i], 2);
            }
            x.is(order[choice % 3 == 0 ? 1 : 0], "answerAt", 0, 1).is(order[choice % 3 == 2 ? 1 : 2], "answerAt", 1, 1);
            x.is(HELLO, "answer", choice).is(HELLO, "answer", choice).is(NONE, "answer", choice).is(6, "count", 13);
        }
        Run x = house(30, "choice is 0 to 1000").call("restart", 0);
        x.refuses(ARGUMENT, "answer", -1).refuses(ARGUMENT, "answer", 1001).refuses(ARGUMENT, "answer", MAX)
                .refuses(ARGUMENT, "answer", MIN);
        x.call("stop").refuses(ARGUMENT, "answer", -1).refuses(ARGUMENT, "answer", 1001).refuses(STATE, "answer", 0)
                .refuses(STATE, "answer", 1000);
    }

    private static void emptyInboxes() {
        Run x = house(29, "NONE if the inbox is empty");
        x.is(NONE, "deliver", 0, 0).is(NONE, "deliver", 2, 1000).is(NONE, "answer", 0).is(NONE, "answer", 1000)
                .is(0, "settle");
        x.call("stop").is(NONE, "deliver", 1, 0).is(0, "settle").refuses(STATE, "answer", 0);
    }

    // ---- section 6: the table

    private static void fortyRules() {
        Run x = new Run(35, "a table of at most 40 rules: 40 fit").house(2, "policy a { " + FORTY + " }")
                .is(40, "rules", 0, 0);
        x.call("update", 0, NONE, 0).times(39, "deliver", 0, 0).is(39, "switchAt", 0, 0).is(ADD, "deliver", 0, 0)
                .is(40, "switchAt", 0, 0);
        x.is(BARRIER, "deliver", 0, 0).are("answerAt", Run.of(0), DONE, 0, 1, 0)
                .are("tableAt", Run.of(0, 39), 0, 60, 60, 1, 0);
        x.refuses(INDEX, "tableAt", 0, 40, 0).call("settle").is(1, "updateAt", 0, 4).is(40, "switchAt", 1, 0)
                .is(0, "errors").isReal("40.0", "meanRules");
        Run y = new Run(35, "a table of at most 40 rules: the 41st is refused")
                .house(2, "policy a { " + FORTY_ONE + " }").is(41, "rules", 0, 0);
        y.call("update", 0, NONE, 0).times(40, "deliver", 0, 0).is(40, "switchAt", 0, 0).is(ADD, "deliver", 0, 0)
                .is(40, "switchAt", 0, 0);
        y.is(0, "errors").is(BARRIER, "deliver", 0, 0).are("answerAt", Run.of(0), DONE, 0, 1, 1)
                .refuses(INDEX, "tableAt", 0, 40, 0);
        y.call("settle").is(2, "updateAt", 0, 4).is(0, "switchAt", 0, 0);
        // the one that is carried out last is the one that is refused
        Run z = new Run(35, "the 41st, whichever it is").house(2, "policy a { " + FORTY_ONE + " }")
                .call("update", 0, NONE, 0);
        z.is(ADD, "deliver", 0, 40).are("tableAt", Run.of(0, 0), 0, 7 * 16384, 16384, 1, 0).times(40, "deliver", 0, 0)
                .is(40, "switchAt", 0, 0);
        z.is(7 * 16384 + 63, "tableAt", 0, 39, 1).is(BARRIER, "deliver", 0, 0).is(1, "answerAt", 0, 3);
    }

    private static void fullTables() {
        Run x = new Run(29, "if the table is full, nothing is done")
                .house(2, "policy a { " + FORTY + " } policy b { out 3 } policy c { at 1 { out 3 } }");
        x.call("update", 0, NONE, 0).call("settle").call("update", 1, NONE, 0).is(ADD, "deliver", 0, 0)
                .is(40, "switchAt", 0, 0);
        x.is(0, "tableAt", 0, 39, 0).is(BARRIER, "deliver", 0, 0).is(1, "answerAt", 0, 3).call("settle")
                .is(2, "updateAt", 1, 4).is(40, "switchAt", 0, 0);
        // one switch suffices; the others have room
        x.call("update", 2, NONE, 0).call("settle").is(2, "updateAt", 2, 4);
        // a full table that is cleared has room again
        Run y = new Run(29, "a table that is cleared has room again")
                .house(2, "policy a { " + FORTY + " } policy b { at 0 { out 3 } }");
        y.call("update", 0, NONE, 0).call("settle").call("update", 1, NONE, 1).call("settle").is(1, "switchAt", 0, 0)
                .is(0, "switchAt", 1, 0);
        y.call("update", 0, NONE, 1).call("settle").is(40, "switchAt", 0, 0).is(1, "updateAt", 2, 4);
    }

    private static void rulesThatAreThere() {
        Run x = new Run(29, "a rule with this tag and pattern gets the actions, its count stays, also in a full table");
        x.house(2, "policy a { " + FORTY + " } policy b { "
                + FORTY.replace("out 1", "out 4").replace("out 2", "out 1 | out 2") + " }");
        x.call("update", 0, NONE, 0).call("settle").call("send", 0, 0).call("send", 0, 3).call("send", 0, 0);
        x.are("tableAt", Run.of(0, 0), 0, 63, 0, 1, 2).are("tableAt", Run.of(0, 1), 0, 63, 1, 1, 0)
                .are("tableAt", Run.of(0, 3), 0, 63, 3, 1, 1);
        x.call("update", 1, NONE, 1).is(42, "switchAt", 0, 2).is(ADD, "deliver", 0, 1)
                .are("tableAt", Run.of(0, 1), 0, 63, 1, 2, 0);
        x.is(ADD, "deliver", 0, 0).are("tableAt", Run.of(0, 0), 0, 63, 0, 1, 2).is(40, "switchAt", 0, 0)
                .times(39, "deliver", 0, 0).is(BARRIER, "deliver", 0, 0);
        x.are("answerAt", Run.of(0), DONE, 0, 3, 0).is(40, "switchAt", 0, 0).is(2, "tableAt", 0, 0, 4)
                .is(1, "tableAt", 0, 3, 4);
        x.call("settle").is(1, "updateAt", 1, 4).call("send", 0, 0).is(3, "tableAt", 0, 0, 4).is(4, "copyAt", 3, 1, 3);
    }

    private static void refusedSinceTheBarrierBefore() {
        Run x = new Run(32, "how many rules were refused since the BARRIER before it")
                .house(2, "policy a { " + FORTY_ONE + " }");
        x.call("update", 0, NONE, 0).call("stop").call("start");
        // ADD of the update and its BARRIER; BARRIER of ASKING
        x.times(41, "deliver", 0, 0).is(BARRIER, "deliver", 0, 0).is(BARRIER, "deliver", 0, 0);
        x.are("answerAt", Run.of(0), DONE, 0, 1, 1).are("answerAt", Run.of(1), DONE, 0, 2, 0);
        Run y = new Run(32, "a BARRIER counts while the controller is stopped")
                .house(2, "policy a { " + FORTY_ONE + " }");
        y.call("update", 0, NONE, 0).call("stop").times(42, "deliver", 0, 0).call("start").is(BARRIER, "deliver", 0, 0)
                .are("answerAt", Run.of(0), DONE, 0, 2, 0);
    }

    private static void refusedSinceTheRestart() {
        Run x = new Run(32, "how many rules were refused since the restart").house(2, "policy a { " + FORTY_ONE + " }");
        x.call("update", 0, NONE, 0).times(41, "deliver", 0, 0).is(40, "restart", 0).is(HELLO, "answer", 0)
                .is(BARRIER, "deliver", 0, 0);
        x.are("answerAt", Run.of(0), DONE, 0, 0, 0).times(40, "deliver", 0, 0).is(40, "switchAt", 0, 0)
                .is(ADD, "deliver", 0, 0).is(STAMP, "deliver", 0, 0);
        x.is(BARRIER, "deliver", 0, 0).are("answerAt", Run.of(1), DONE, 0, 1, 1);
    }

    private static void removeAndClear() {
        Run x = house(29, "a rule is taken away, if it is there").call("update", 0, NONE, 0).call("settle")
                .call("update", 1, NONE, 1);
        x.are("messageAt", Run.of(0, 0), REMOVE, 0, 4, 0).are("messageAt", Run.of(0, 2), REMOVE, 0, 6, 6)
                .is(REMOVE, "deliver", 0, 1).is(2, "switchAt", 0, 0);
        x.is(6, "tableAt", 0, 1, 2).is(REMOVE, "deliver", 0, 0).is(REMOVE, "deliver", 0, 0).is(0, "switchAt", 0, 0);
        x.call("stop").call("start");
        for (int at = 0; at < 3; at++) {
            x.call("restart", at);
        }
        x.call("settle").is(1, "switchAt", 0, 0).is(1, "updateAt", 1, 4).are("tableAt", Run.of(0, 0), 0, 0, 0, 1, 0);
        // the same messages once more, of rules that are gone
        Run y = house(29, "a rule that is not there").call("update", 0, NONE, 0).call("settle")
                .call("update", 2, NONE, 1).carryOut(3).is(0, "switchAt", 0, 0);
        y.call("stop").call("start").carryOut(3).answers(3).is(5, "controllerAt", 0).is(REMOVE, "messageAt", 0, 2, 0);
        y.is(STAMP, "deliver", 0, 0).is(BARRIER, "deliver", 0, 0).is(REMOVE, "deliver", 0, 0).is(0, "switchAt", 0, 0)
                .call("settle").is(1, "updateAt", 1, 4);
        Run z = house(29, "all rules with this tag are taken away, and no others").call("update", 0, NONE, 0)
                .call("settle").call("update", 1, NONE, 0).call("settle");
        z.is(4, "switchAt", 0, 0).call("pass", 109).is(CLEAR, "messageAt", 0, 0, 0).is(CLEAR, "deliver", 0, 0)
                .is(1, "switchAt", 0, 0).is(1, "tableAt", 0, 0, 0);
        z.call("restart", 1).call("answer", 0).call("settle").is(1, "switchAt", 1, 0).is(1, "switchAt", 2, 0);
        // CLEAR where no rule has the tag
        Run w = house(29, "CLEAR without such a rule").call("update", 2, NONE, 0).call("settle")
                .call("update", 1, NONE, 0).call("settle").call("pass", 109);
        w.is(CLEAR, "deliver", 2, 0).is(1, "switchAt", 2, 0);
    }

    private static void stampLists() {
        Run x = house(36, "the stamp list becomes that of the message").call("update", 0, 1, 0).call("settle")
                .is(1, "switchAt", 0, 1);
        x.call("update", 1, 0, 0).carryOut(3).answers(3).are("messageAt", Run.of(0, 0), STAMP, 2, 0, 0);
        x.are("stampAt", Run.of(0, 0), 1, 0, 0).is(STAMP, "deliver", 0, 0).is(2, "switchAt", 0, 1);
        x.are("stampAt", Run.of(0, 0), 0, 1, 1).are("stampAt", Run.of(0, 1), 1, 0, 0).refuses(INDEX, "stampAt", 0, 2, 0)
                .is(1, "switchAt", 1, 1);
        // a message keeps the list with which it was sent
        Run y = house(36, "the list as it was sent").call("restart", 0).is(HELLO, "answer", 0)
                .call("update", 0, NONE, 0).is(STAMP, "deliver", 0, 0).is(0, "switchAt", 0, 1);
        y.call("settle").is(1, "switchAt", 0, 1).call("update", 1, NONE, 1).are("stampAt", Run.of(0, 0), NONE, 0, 0)
                .call("settle").are("stampAt", Run.of(0, 0), NONE, 0, 1);
    }

    private static void fourTags() {
        Run x = house(35, "tags 0 to 3").call("update", 1, 0, 0).call("settle").call("update", 1, 0, 0).call("settle")
                .call("update", 1, 1, 0).call("settle");
        x.is(7, "controllerAt", 7).is(3, "switchAt", 0, 1).call("update", 1, NONE, 0).is(15, "controllerAt", 7)
                .is(3, "updateAt", 3, 3).call("settle");
        for (int tag = 0; tag < 4; tag++) {
            x.is(tag, "tableAt", 0, tag, 0).are("tableAt", Run.of(2, tag), tag, 0, 0, 1, 0);
        }
        x.is(1, "switchAt", 0, 1).are("stampAt", Run.of(0, 0), NONE, 3, 1).call("send", 0, 0).is(3, "packetAt", 0, 2)
                .is(1, "tableAt", 0, 3, 4).is(0, "tableAt", 0, 0, 4);
        x.call("pass", 109).is(7, "controllerAt", 8).is(8, "controllerAt", 7);
        for (int tag = 0; tag < 3; tag++) {
            x.are("messageAt", Run.of(1, tag), CLEAR, tag, 0, 0);
        }
        x.is(4, "switchAt", 1, 2).call("settle").is(1, "switchAt", 0, 0).is(3, "tableAt", 0, 0, 0);
    }

    private static void restarts() {
        Run x = house(7, "its table, stamp list and inbox are empty, its answers gone, HELLO goes to the controller")
                .call("update", 0, NONE, 0).call("settle");
        x.call("send", 0, 0).call("update", 1, NONE, 0).carryOut(2).is(2, "controllerAt", 3)
                .is(ADD, "messageAt", 2, 0, 0);
        x.is(4, "restart", 1).are("switchAt", Run.of(1), 0, 0, 0, 0, 1).is(2, "controllerAt", 3)
                .are("answerAt", Run.of(0), DONE, 0, 3, 0).are("answerAt", Run.of(1), HELLO, 1, 0, 0);
        x.is(0, "restart", 1).is(2, "controllerAt", 3).is(3, "restart", 2).are("switchAt", Run.of(2), 0, 0, 0, 0, 1)
                .is(3, "controllerAt", 3);
        x.is(4, "restart", 0).is(3, "controllerAt", 3).is(1, "answerAt", 0, 1).is(2, "answerAt", 1, 1)
                .are("answerAt", Run.of(2), HELLO, 0, 0, 0);
        // copies that are under way stay so
        x.is(1, "count", 9).is(0, "copyAt", 0, 1, 0).is(4, "count", 15).is(0, "pass", 8).is(1, "count", 9)
                .is(0, "pass", 1).is(3, "copyAt", 0, 1, 0);
    }

    private static void settles() {
        Run x = house(31, "how many messages and answers these were").is(0, "settle").call("update", 2, NONE, 0);
        // a BARRIER and a DONE of each; a STAMP, a BARRIER and a DONE of each
        x.is(3 + 3 + 6 + 3, "settle").is(0, "settle").call("restart", 2).is(1 + 2 + 1, "settle");
        x.call("update", 1, NONE, 0).call("stop").is(6, "settle").is(0, "settle").is(0, "controllerAt", 3)
                .is(1, "controllerAt", 0);
        x.call("restart", 0).is(0, "settle").call("start").call("restart", 0).is(0, "switchAt", 0, 2)
                .is(2, "count", 13);
    }

    // ---- promises 32 to 36: numbers

    private static void numbersOfAnswers() {
        Run x = house(32, "an answer that is there, what is 0 to 3").call("restart", 0).call("restart", 2);
        x.are("answerAt", Run.of(0), HELLO, 0, 0, 0).are("answerAt", Run.of(1), HELLO, 2, 0, 0);
        x.refuses(INDEX, "answerAt", -1, 0).refuses(INDEX, "answerAt", 2, 0).refuses(INDEX, "answerAt", MAX, 0)
                .refuses(INDEX, "answerAt", 2, 4);
        x.refuses(ARGUMENT, "answerAt", 0, -1).refuses(ARGUMENT, "answerAt", 1, 4).refuses(ARGUMENT, "answerAt", 0, MIN)
                .refuses(INDEX, "answerAt", -1, -1);
        x.call("answer", 0).refuses(INDEX, "answerAt", 1, 0).call("stop").refuses(INDEX, "answerAt", 0, 0);
    }

    private static void numbersOfMessages() {
        Run x = house(33, "a message that is there, what is 0 to 3").call("update", 0, NONE, 0);
        x.are("messageAt", Run.of(0, 0), ADD, 0, 4, 0).are("messageAt", Run.of(0, 2), ADD, 0, 6, 6)
                .are("messageAt", Run.of(0, 3), BARRIER, 1, 0, 0);
        x.refuses(INDEX, "messageAt", 0, -1, 0).refuses(INDEX, "messageAt", 0, 4, 0)
                .refuses(INDEX, "messageAt", 0, MAX, 0).refuses(INDEX, "messageAt", 0, 4, 4);
        x.refuses(INDEX, "messageAt", -1, 0, 0).refuses(INDEX, "messageAt", 3, 0, 0)
                .refuses(INDEX, "messageAt", 3, 0, -1).refuses(INDEX, "messageAt", 0, -1, 9);
        x.refuses(ARGUMENT, "messageAt", 0, 0, -1).refuses(ARGUMENT, "messageAt", 0, 3, 4)
                .refuses(ARGUMENT, "messageAt", 2, 0, MAX);
        x.call("deliver", 0, 0).refuses(INDEX, "messageAt", 0, 3, 0).is(BARRIER, "messageAt", 0, 2, 0)
                .is(BARRIER, "messageAt", 1, 3, 0);
    }

    private static void numbersOfSwitches() {
        Run x = house(34, "a switch that is there, what is 0 to 4").call("update", 0, 0, 0).call("deliver", 2, 0)
                .are("switchAt", Run.of(2), 1, 0, 3, 2, 0);
        x.refuses(INDEX, "switchAt", -1, 0).refuses(INDEX, "switchAt", 3, 0).refuses(INDEX, "switchAt", MIN, 0)
                .refuses(INDEX, "switchAt", 3, 5);
        x.refuses(ARGUMENT, "switchAt", 0, -1).refuses(ARGUMENT, "switchAt", 2, 5).refuses(ARGUMENT, "switchAt", 0, MAX)
                .refuses(INDEX, "switchAt", -1, -1);
    }

    private static void numbersOfRules() {
        Run x = house(35, "a rule that is there, what is 0 to 4").call("update", 0, 0, 0).call("settle")
                .call("send", 0, 7);
        x.are("tableAt", Run.of(0, 0), 0, 4, 0, 1, 0).are("tableAt", Run.of(0, 2), 0, 6, 6, 1, 1);
        x.refuses(INDEX, "tableAt", 0, -1, 0).refuses(INDEX, "tableAt", 0, 3, 0).refuses(INDEX, "tableAt", 0, MAX, 0)
                .refuses(INDEX, "tableAt", 0, 3, 5);
        x.refuses(INDEX, "tableAt", -1, 0, 0).refuses(INDEX, "tableAt", 3, 0, 0).refuses(INDEX, "tableAt", 3, 0, 5)
                .refuses(INDEX, "tableAt", 0, -1, -1);
        x.refuses(ARGUMENT, "tableAt", 0, 0, -1).refuses(ARGUMENT, "tableAt", 0, 2, 5)
                .refuses(ARGUMENT, "tableAt", 0, 0, MIN);
    }

    private static void numbersOfEntries() {
        Run x = house(36, "an entry that is there, what is 0 to 2").call("update", 0, 1, 0).call("settle")
                .call("update", 1, 0, 0).call("settle");
        x.are("stampAt", Run.of(2, 0), 0, 1, 1).are("stampAt", Run.of(2, 1), 1, 0, 0);
        x.refuses(INDEX, "stampAt", 0, -1, 0).refuses(INDEX, "stampAt", 0, 2, 0).refuses(INDEX, "stampAt", 0, MAX, 0)
                .refuses(INDEX, "stampAt", 0, 2, 3);
        x.refuses(INDEX, "stampAt", -1, 0, 0).refuses(INDEX, "stampAt", 3, 0, 0).refuses(INDEX, "stampAt", 3, 0, 3)
                .refuses(INDEX, "stampAt", 0, -1, -1);
        x.refuses(ARGUMENT, "stampAt", 0, 0, -1).refuses(ARGUMENT, "stampAt", 0, 1, 3)
                .refuses(ARGUMENT, "stampAt", 0, 0, MAX);
    }
}
