/** The boundaries that section 7 and the promises 23 to 28 name: updates, the controller and its phases. */
public final class EdgesOfUpdates {
    private static final int NONE = -1;
    private static final int MAX = Integer.MAX_VALUE, MIN = Integer.MIN_VALUE;
    private static final int ADD = 0, REMOVE = 1, CLEAR = 2, STAMP = 3, BARRIER = 4, HELLO = 1;
    private static final int IDLE = 0, ADDING = 1, STAMPING = 2, WAITING = 3, CLEARING = 4, CHANGING = 5, ASKING = 6;
    private static final int GOES_ON = 0, ENDED = 1, WAS_REFUSED = 2, WAS_CANCELLED = 3;
    private static final Class<? extends RuntimeException> INDEX = Run.INDEX, ARGUMENT = Run.ARGUMENT,
            STATE = Run.STATE;

    /** One rule; two, one of which has the pattern of one of the third; two; none. */
    private static final String FOUR = "policy a { out 1 } policy b { if mark = 0 .. 3 { out 1 } else { out 0 } }"
            + "policy c { if mark = 0 .. 3 { out 2 } else { if mark = 4 .. 5 { out 2 } } } policy d { drop } slice s { mark = 0 } slice t { mark = 1 }";
    private static final String ODD = "kind = 1 or kind = 2 or kind = 4 or kind = 7";
    private static final String FORTY = "if " + ODD
            + " { if mark = 1 or mark = 2 { out 1 } else { out 2 } } else { if mark = 1 or mark = 2 { out 2 } else { out 1 } }";
    private static final String FORTY_ONE = "if in 0 { " + FORTY + " } else { if in 1 { out 3 } }";
    private static final String FULL = "policy full { " + FORTY + " } policy more { " + FORTY_ONE
            + " } policy one { out 1 } policy none { drop } policy last { at 2 { out 1 } } slice s { mark = 0 }";

    public static void main(String[] args) {
        numbersOfAnUpdate();
        orderOfUpdate();
        noSwitch();
        onlyIdle();
        twentyUpdates();
        tagsForAMode();
        leastTag();
        cancelInEachPhase();
        cancelAtTheLastMoment();
        stopAndStart();
        stopInEachPhase();
        answersThatAreLost();
        roundsAreNumberedFromOne();
        eachSwitchMustAnswer();
        answeredAlready();
        otherNumbersMeanNothing();
        refusedInAdding();
        refusedAndCancelled();
        refusedInAnotherRound();
        refusedInStamping();
        refusedInChanging();
        theListOfTheController();
        waits109();
        waitsAnew();
        clears();
        changes();
        noRules();
        bringsUp();
        bringsUpBehindAsking();
        journal();
        switchesAddedMeanwhile();
        numbersOfUpdates();
        numbersOfTheController();
        Run.end("EdgesOfUpdates");
    }

    private static Run house(int promise, String sentence) {
        return new Run(promise, sentence).house(2, FOUR);
    }

    /** A house whose controller is in a phase; update 1 goes on, or update 0 in ADDING and STAMPING. */
    private static Run in(int phase, int promise, String sentence) {
        Run x = house(promise, sentence);
        if (phase == ADDING || phase == STAMPING) {
            x.call("update", 1, NONE, 0);
        } else if (phase != IDLE && phase != ASKING) {
            x.call("update", 0, NONE, 0).call("settle").call("update", 1, NONE, phase == CHANGING ? 1 : 0);
        }
        if (phase == STAMPING) {
            x.carryOut(3).answers(3);
        } else if (phase == WAITING || phase == CLEARING) {
            x.call("settle");
        }
        if (phase == CLEARING) {
            x.call("pass", 109);
        } else if (phase == ASKING) {
            x.call("stop").call("start");
        }
        return x.is(phase, "controllerAt", 0);
    }

    /** Lets the round of ASKING end, and leaves what is sent then. */
    private static Run ask(Run x) {
        return x.carryOut(3).answersWhile(ASKING);
    }

    private static Run messages(Run x, int at, int... due) {
        x.is(due.length / 2, "switchAt", at, 2);
        for (int i = 0; i < due.length; i++) {
            x.is(due[i], "messageAt", at, i / 2, i % 2);
        }
        return x;
    }

    // ---- promise 23

    private static void numbersOfAnUpdate() {
        Run x = house(23, "a policy that is there, a slice that is there or NONE, mode 0 or 1");
        x.refuses(INDEX, "update", -1, NONE, 0).refuses(INDEX, "update", 4, NONE, 0)
                .refuses(INDEX, "update", MAX, NONE, 0).refuses(INDEX, "update", MIN, 0, 0);
        x.refuses(INDEX, "update", 0, -2, 0).refuses(INDEX, "update", 0, 2, 0).refuses(INDEX, "update", 0, MIN, 0)
                .refuses(INDEX, "update", 0, MAX, 0);
        x.refuses(ARGUMENT, "update", 0, NONE, -1).refuses(ARGUMENT, "update", 0, NONE, 2)
                .refuses(ARGUMENT, "update", 0, NONE, MAX);
        x.refuses(ARGUMENT, "update", 0, 0, 1).refuses(ARGUMENT, "update", 3, 1, 1).is(0, "count", 6);
        x.is(0, "update", 3, 1, 0).are("updateAt", Run.of(0), 3, 1, 0, 0, GOES_ON, 0, NONE).call("settle")
                .is(1, "update", 0, NONE, 1);
        x.are("updateAt", Run.of(1), 0, NONE, 1, 0, GOES_ON, 0, NONE);
    }

    private static void orderOfUpdate() {
        Run x = house(23, "the exception that is listed first");
        x.refuses(INDEX, "update", 4, NONE, 2).refuses(INDEX, "update", 4, 0, 1).refuses(INDEX, "update", 0, 2, 2)
                .refuses(INDEX, "update", 0, 2, 1).refuses(INDEX, "update", 4, 2, 0);
        x.call("stop").refuses(INDEX, "update", 4, NONE, 0).refuses(INDEX, "update", 0, 2, 0)
                .refuses(ARGUMENT, "update", 0, NONE, 2).refuses(ARGUMENT, "update", 0, 0, 1);
        x.refuses(STATE, "update", 0, NONE, 0).refuses(STATE, "update", 0, 1, 0).refuses(STATE, "update", 0, NONE, 1);
    }

    private static void noSwitch() {
        Run x = new Run(23, "there is no switch").text(FOUR).call("load");
        x.refuses(STATE, "update", 0, NONE, 0).refuses(STATE, "update", 0, 0, 0).refuses(STATE, "update", 0, NONE, 1)
                .refuses(ARGUMENT, "update", 0, 0, 1);
        x.refuses(INDEX, "update", 4, NONE, 0).is(0, "count", 6).is(0, "addSwitch").is(0, "update", 0, NONE, 0);
    }

    private static void onlyIdle() {
        for (int phase = ADDING; phase <= ASKING; phase++) {
            Run x = in(phase, 23, "the controller is not IDLE");
            x.refuses(STATE, "update", 0, NONE, 0).refuses(STATE, "update", 0, 0, 0)
                    .refuses(STATE, "update", 0, NONE, 1);
            x.refuses(INDEX, "update", 4, NONE, 0).refuses(ARGUMENT, "update", 0, 0, 1);
            x.call("stop").refuses(STATE, "update", 0, NONE, 0).refuses(STATE, "update", 0, NONE, 1);
        }
        Run x = in(IDLE, 23, "the controller is IDLE, but stopped").call("stop").refuses(STATE, "update", 0, NONE, 0);
        ask(x.call("start")).is(IDLE, "controllerAt", 0).is(0, "update", 0, NONE, 0);
    }

    private static void twentyUpdates() {
        Run x = house(23, "20 updates were begun");
        for (int i = 0; i < 20; i++) {
            x.is(i, "update", 3, NONE, i == 1 ? 1 : 0).call("settle")
                    .is(i == 0 || i == 1 ? ENDED : GOES_ON, "updateAt", i, 4);
            if (i > 1) {
                x.call("pass", 109).call("settle").is(ENDED, "updateAt", i, 4);
            }
        }
        x.refuses(STATE, "update", 0, NONE, 0).refuses(STATE, "update", 0, NONE, 1).refuses(STATE, "update", 0, 0, 0)
                .is(20, "count", 6);
        x.refuses(INDEX, "update", 4, NONE, 0).refuses(ARGUMENT, "update", 0, 0, 1).is(IDLE, "controllerAt", 0)
                .refuses(INDEX, "updateAt", 20, 0);
        Run y = house(23, "20 updates that were cancelled");
        for (int i = 0; i < 20; i++) {
            y.is(i, "update", 0, NONE, 0).is(i, "cancel").call("settle").is(WAS_CANCELLED, "updateAt", i, 4);
        }
        y.refuses(STATE, "update", 0, NONE, 0).is(0, "controllerAt", 7);
    }

    private static void tagsForAMode() {
        Run x = house(23, "with a slice, all tags but one are in use; in mode 1 not just one is");
        x.refuses(STATE, "update", 0, NONE, 1).is(0, "update", 0, 0, 0).call("settle").is(1, "controllerAt", 7);
        x.is(1, "update", 1, NONE, 1).call("settle").is(1, "controllerAt", 7).is(2, "update", 0, 1, 0).call("settle")
                .is(3, "controllerAt", 7);
        x.refuses(STATE, "update", 0, NONE, 1).is(3, "update", 0, 0, 0).call("settle").is(7, "controllerAt", 7)
                .is(IDLE, "controllerAt", 0);
        x.refuses(STATE, "update", 0, 0, 0).refuses(STATE, "update", 1, 1, 0).refuses(STATE, "update", 0, NONE, 1);
        x.is(4, "update", 0, NONE, 0).is(15, "controllerAt", 7).is(3, "updateAt", 4, 3).call("cancel").call("settle")
                .is(7, "controllerAt", 7);
        x.refuses(STATE, "update", 0, 0, 0).is(5, "update", 0, NONE, 0).call("settle").call("pass", 109).call("settle")
                .is(8, "controllerAt", 7);
        x.is(6, "update", 0, NONE, 1).call("settle").is(ENDED, "updateAt", 6, 4).is(3, "updateAt", 6, 3);
    }

    private static void leastTag() {
        Run x = house(23, "the least tag that is not in use");
        int[] slices = {0, 1, 0, NONE, 0, 1, NONE, NONE};
        int[] tags = {0, 1, 2, 3, 0, 1, 2, 0};
        for (int i = 0; i < slices.length; i++) {
            x.is(i, "update", 0, slices[i], 0).is(tags[i], "updateAt", i, 3).call("settle");
            if (slices[i] == NONE) {
                x.is(WAITING, "controllerAt", 0).call("pass", 109).call("settle").is(1 << tags[i], "controllerAt", 7);
            }
            x.is(IDLE, "controllerAt", 0);
        }
    }

    // ---- promise 24

    private static void cancelInEachPhase() {
        for (int phase = IDLE; phase <= ASKING; phase++) {
            Run x = in(phase, 24, "only an update in ADDING can be cancelled");
            if (phase == ADDING) {
                x.is(0, "cancel").refuses(STATE, "cancel").is(ADDING, "controllerAt", 0).is(GOES_ON, "updateAt", 0, 4);
                x.call("stop").refuses(STATE, "cancel").call("start").refuses(STATE, "cancel");
                ask(x).is(ADDING, "controllerAt", 0).refuses(STATE, "cancel");
            } else {
                x.refuses(STATE, "cancel").call("stop").refuses(STATE, "cancel");
            }
        }
        Run x = in(ADDING, 24, "ADDING once more").call("stop").refuses(STATE, "cancel").call("start")
                .refuses(STATE, "cancel");
        ask(x).is(0, "cancel").refuses(STATE, "cancel").call("settle").is(WAS_CANCELLED, "updateAt", 0, 4)
                .refuses(STATE, "cancel");
    }

    private static void cancelAtTheLastMoment() {
        Run x = in(ADDING, 24, "with one answer missing").carryOut(3).answers(2).is(0, "cancel")
                .is(ADDING, "controllerAt", 0).answers(1);
        x.is(CLEARING, "controllerAt", 0).is(1, "controllerAt", 8).is(0, "controllerAt", 7).is(0, "controllerAt", 5)
                .refuses(STATE, "cancel");
        x.call("pass", 3).call("settle").are("updateAt", Run.of(0), 1, NONE, 0, 0, WAS_CANCELLED, 0, 3)
                .is(0, "switchAt", 0, 0).is(0, "switchAt", 0, 1);
        Run y = in(ADDING, 24, "too late").carryOut(3).answers(3).refuses(STATE, "cancel").call("settle")
                .is(ENDED, "updateAt", 0, 4);
    }

    // ---- promises 25 and 26

    private static void stopAndStart() {
        Run x = house(25, "stop and start, in turn").refuses(STATE, "start").is(0, "stop").refuses(STATE, "stop")
                .is(1, "controllerAt", 4);
        x.is(IDLE, "start").refuses(STATE, "start").is(0, "controllerAt", 4).is(0, "stop").refuses(STATE, "stop")
                .is(IDLE, "start").is(2, "controllerAt", 1);
    }

    private static void stopInEachPhase() {
        for (int phase = IDLE; phase <= ASKING; phase++) {
            Run x = in(phase, 25, "what is told while it is stopped, and the phase that follows");
            boolean hasRound = phase != IDLE && phase != WAITING;
            int round = phase == ADDING || phase == ASKING ? 1 : phase == STAMPING ? 2 : phase == CHANGING ? 3 : phase == CLEARING ? 5 : 0;
            x.is(round, "controllerAt", 1).carryOut(2).is(hasRound ? 2 : 0, "controllerAt", 3);
            if (hasRound) {
                x.call("answer", 0);
            }
            x.is(hasRound ? 1 : 0, "stop").refuses(STATE, "stop").is(phase, "controllerAt", 0)
                    .is(round, "controllerAt", 1).is(hasRound ? 1 : 0, "controllerAt", 2);
            x.is(0, "controllerAt", 3).is(1, "controllerAt", 4).is(phase == WAITING ? 0 : NONE, "controllerAt", 6);
            x.is(phase == WAITING || phase == CLEARING ? 1 : 0, "controllerAt", 8);
            x.call("pass", 1).carryOut(3).is(0, "controllerAt", 3).is(phase, "controllerAt", 0);
            int last = phase == WAITING ? 4 : phase == IDLE ? 0 : round;
            x.is(phase == ASKING ? IDLE : phase, "start").is(ASKING, "controllerAt", 0).is(last + 1, "controllerAt", 1)
                    .is(0, "controllerAt", 2);
            x.is(NONE, "controllerAt", 6).is(0, "controllerAt", 8);
            // stopped in ASKING: the phase that follows is that of the stop before it
            x.carryOut(1).is(1, "stop").is(phase == ASKING ? IDLE : phase, "start").is(last + 2, "controllerAt", 1)
                    .is(0, "controllerAt", 2);
            ask(x).is(phase == ASKING ? IDLE : phase, "controllerAt", 0)
                    .is(hasRound && phase != ASKING ? last + 3 : 0, "controllerAt", 1);
            x.is(phase == WAITING ? 1 : NONE, "controllerAt", 6);
        }
    }

    private static void answersThatAreLost() {
        Run x = in(ADDING, 25, "answers that it has not handled, and that come while it is stopped, are lost")
                .carryOut(3).is(3, "controllerAt", 3).is(3, "stop");
        x.call("restart", 0).is(0, "controllerAt", 3).is(0, "settle").is(ADDING, "start").is(0, "controllerAt", 3)
                .is(3, "count", 13);
        x.refuses(INDEX, "answerAt", 0, 0).is(NONE, "answer", 0);
        Run y = house(25, "no answers").is(0, "stop");
        Run z = house(25, "one answer").call("restart", 1).is(1, "stop").call("restart", 1).is(0, "controllerAt", 3);
    }

    // ---- rounds

    private static void roundsAreNumberedFromOne() {
        Run x = house(28, "each round has the next number, from 1 on; in IDLE and WAITING there is none")
                .is(0, "controllerAt", 1).call("update", 0, NONE, 0).is(1, "controllerAt", 1);
        x.is(1, "messageAt", 2, 1, 1).carryOut(3).answers(3).is(2, "controllerAt", 1).is(2, "messageAt", 0, 1, 1)
                .call("settle").is(0, "controllerAt", 1).is(0, "controllerAt", 2);
        x.call("update", 1, NONE, 0).is(3, "controllerAt", 1).call("settle").is(WAITING, "controllerAt", 0)
                .is(0, "controllerAt", 1).is(0, "controllerAt", 2);
        x.call("pass", 109).is(5, "controllerAt", 1).call("stop").call("start").is(6, "controllerAt", 1).call("settle")
                .is(0, "controllerAt", 1);
        x.call("update", 0, NONE, 1).is(8, "controllerAt", 1);
    }

    private static void eachSwitchMustAnswer() {
        Run x = in(ADDING, 28, "a round is over when a DONE of each switch was handled").carryOut(3)
                .is(0, "controllerAt", 2);
        for (int i = 0; i < 3; i++) {
            x.is(ADDING, "controllerAt", 0).is(i, "controllerAt", 2).is(0, "answer", 1000);
        }
        x.is(STAMPING, "controllerAt", 0).is(0, "controllerAt", 2);
        // two DONE of one switch are not those of two
        Run y = in(ADDING, 28, "the same switch twice").call("restart", 0).is(HELLO, "answer", 0).carryOut(2);
        y.are("answerAt", Run.of(0), 0, 0, 0, 0).are("answerAt", Run.of(1), 0, 0, 1, 0).answers(2)
                .is(1, "controllerAt", 2).call("restart", 0).is(1, "answerAt", 1, 0);
        y.is(HELLO, "answer", 1).is(1, "controllerAt", 2).carryOut(1).is(3, "controllerAt", 3).is(0, "answer", 2)
                .is(1, "controllerAt", 2).is(0, "answer", 1).is(1, "controllerAt", 2);
        y.is(0, "answer", 0).is(2, "controllerAt", 2).is(ADDING, "controllerAt", 0).carryOut(3).is(0, "answer", 0)
                .is(STAMPING, "controllerAt", 0);
    }

    private static void answeredAlready() {
        Run x = in(ASKING, 30, "in ASKING: if the switch had answered already, it counts as answered").carryOut(1)
                .answers(1).is(1, "controllerAt", 2).call("restart", 0).is(HELLO, "answer", 0);
        messages(x, 0, BARRIER, 1).is(1, "controllerAt", 2).call("deliver", 1, 0).call("deliver", 2, 0).answers(1)
                .is(ASKING, "controllerAt", 0).is(2, "controllerAt", 2).answers(1).is(IDLE, "controllerAt", 0);
        // its second BARRIER is still there, ahead of what brings it up
        messages(x, 0, BARRIER, 1, STAMP, 0, BARRIER, 0);
        Run y = in(ASKING, 30, "in ASKING: a switch that had not answered must").call("restart", 0)
                .is(HELLO, "answer", 0).call("deliver", 1, 0).call("deliver", 2, 0).answers(2)
                .is(ASKING, "controllerAt", 0).is(2, "controllerAt", 2);
        y.call("deliver", 0, 0).answers(1).is(IDLE, "controllerAt", 0);
    }

    private static void otherNumbersMeanNothing() {
        // switch 0 answers, restarts, and answers the round of ADDING once more when it is over
        Run x = in(ADDING, 28, "DONE with another number than that of the round means nothing").carryOut(1).answers(1)
                .call("restart", 0).answers(1).is(1, "controllerAt", 2);
        x.carryOut(3).is(4, "controllerAt", 3).are("answerAt", Run.of(0), 0, 0, 0, 0)
                .are("answerAt", Run.of(1), 0, 0, 1, 0).is(0, "answer", 0).is(1, "controllerAt", 2);
        x.is(0, "answer", 1).is(0, "answer", 1).is(STAMPING, "controllerAt", 0).is(0, "controllerAt", 2)
                .is(1, "answerAt", 0, 2).is(0, "answer", 0).is(0, "controllerAt", 2);
        x.call("settle").is(ENDED, "updateAt", 0, 4);
        Run y = house(28, "DONE in IDLE, with the number 0").call("restart", 0).answers(1).carryOut(1)
                .are("answerAt", Run.of(0), 0, 0, 0, 0).is(0, "answer", 0);
        y.is(IDLE, "controllerAt", 0).is(0, "controllerAt", 2);
        Run z = in(WAITING, 28, "DONE in WAITING, with the number 0").call("restart", 0).answers(1).carryOut(1)
                .answers(2).is(WAITING, "controllerAt", 0).is(0, "controllerAt", 2);
    }

    // ---- refused rules

    private static void refusedInAdding() {
        Run x = new Run(23, "rules that just fit").house(2, FULL).call("update", 0, NONE, 0).call("settle")
                .is(ENDED, "updateAt", 0, 4).is(40, "switchAt", 2, 0);
        Run y = new Run(23, "one rule that does not fit").house(2, FULL).call("update", 1, NONE, 0).carryOut(3)
                .answers(2).is(ADDING, "controllerAt", 0).answers(1);
        y.is(CLEARING, "controllerAt", 0).is(1, "controllerAt", 8).is(0, "controllerAt", 7).is(0, "controllerAt", 5)
                .is(2, "controllerAt", 1).is(GOES_ON, "updateAt", 0, 4);
        messages(y, 2, CLEAR, 0, BARRIER, 2).call("pass", 7).call("settle")
                .are("updateAt", Run.of(0), 1, NONE, 0, 0, WAS_REFUSED, 0, 7).is(0, "switchAt", 1, 0);
        // one switch suffices, and it may be the last one
        Run z = new Run(23, "one switch refuses one rule").house(2, FULL).call("update", 0, NONE, 0).call("settle")
                .call("update", 4, NONE, 0).carryOut(3);
        z.is(0, "answerAt", 0, 3).is(0, "answerAt", 1, 3).is(1, "answerAt", 2, 3).answers(3)
                .is(CLEARING, "controllerAt", 0).is(2, "controllerAt", 8).is(1, "controllerAt", 7)
                .is(1, "controllerAt", 5);
        z.call("settle").is(WAS_REFUSED, "updateAt", 1, 4).is(40, "switchAt", 2, 0).is(IDLE, "controllerAt", 0);
        // what was refused does not count for the next one
        z.call("update", 3, NONE, 0).call("settle").is(WAITING, "controllerAt", 0);
    }

    private static void refusedAndCancelled() {
        Run x = new Run(24, "refused, if it is both").house(2, FULL).call("update", 1, NONE, 0).is(0, "cancel")
                .call("settle").is(WAS_REFUSED, "updateAt", 0, 4);
        x.call("update", 2, NONE, 0).call("settle").is(ENDED, "updateAt", 1, 4).call("update", 2, 0, 0).is(2, "cancel")
                .call("settle").is(WAS_CANCELLED, "updateAt", 2, 4);
        // neither counts for the next one
        x.call("update", 2, 0, 0).call("settle").is(ENDED, "updateAt", 3, 4);
    }

    private static void refusedInAnotherRound() {
        // the tag has a policy of 41 rules, so that a switch that is brought up refuses one, which a BARRIER 0 tells
        Run x = new Run(23, "a DONE with its number, while ADDING lasts").house(2, FULL).call("update", 2, NONE, 0)
                .call("settle");
        x.call("update", 1, NONE, 1).call("settle").is(WAS_REFUSED, "updateAt", 1, 4).is(40, "switchAt", 0, 0)
                .is(1, "controllerAt", 7);
        x.call("update", 3, NONE, 0).call("restart", 0).is(HELLO, "answer", 0).times(42, "deliver", 0, 0)
                .are("answerAt", Run.of(0), 0, 0, 0, 1).is(0, "answer", 0);
        x.is(STAMP, "deliver", 0, 0).is(BARRIER, "deliver", 0, 0).are("answerAt", Run.of(0), 0, 0, 4, 0).call("settle")
                .is(WAITING, "controllerAt", 0).is(GOES_ON, "updateAt", 2, 4);
    }

    private static void refusedInStamping() {
        // switch 0 refuses 24 rules of the policy in mode 1, so it has room for a rule of the next one, until it restarts
        String other = FORTY.replace("kind", "KIND").replace("mark", "kind").replace("KIND", "mark");
        Run x = new Run(23, "rules that are refused in STAMPING do not matter")
                .house(2, "policy full { " + FORTY + " } policy other { " + other
                        + " } policy first { at 0 { out 1 } }");
        x.call("update", 0, NONE, 0).call("settle").call("update", 1, NONE, 1).times(40, "deliver", 0, 24)
                .call("settle");
        x.is(WAS_REFUSED, "updateAt", 1, 4).is(16, "switchAt", 0, 0).is(40, "switchAt", 1, 0);
        x.call("update", 2, NONE, 0).carryOut(3).answers(3).is(STAMPING, "controllerAt", 0).is(17, "restart", 0);
        x.is(HELLO, "answer", 0).carryOut(1).are("answerAt", Run.of(0), 0, 0, 0, 0)
                .are("answerAt", Run.of(1), 0, 0, 5, 1);
        x.call("settle").is(WAITING, "controllerAt", 0).call("pass", 109).call("settle").is(ENDED, "updateAt", 2, 4);
    }

    private static void refusedInChanging() {
        Run x = new Run(23, "in mode 1 it is refused, and the tables stay as they are").house(2, FULL)
                .call("update", 2, NONE, 0).call("settle");
        x.call("update", 0, NONE, 1).call("settle").is(ENDED, "updateAt", 1, 4).is(40, "switchAt", 0, 0)
                .call("update", 1, NONE, 1);
        // the rules of port 0 and 1: other patterns, so 40 are removed first, and the 41st is refused
        x.call("settle").is(WAS_REFUSED, "updateAt", 2, 4).is(40, "switchAt", 0, 0).is(40, "switchAt", 2, 0)
                .is(IDLE, "controllerAt", 0).is(1, "controllerAt", 7);
        x.are("stampAt", Run.of(0, 0), NONE, 0, 1).is(0, "controllerAt", 8).is(1, "isConsistent").is(0, "errors");
        x.call("update", 2, NONE, 1).call("settle").is(ENDED, "updateAt", 3, 4).is(1, "switchAt", 0, 0);
    }

    // ---- phases

    private static void theListOfTheController() {
        Run x = house(28, "without a slice one entry; otherwise ahead of those that were there")
                .is(0, "controllerAt", 5).call("update", 0, 0, 0).is(0, "controllerAt", 5).carryOut(3).answers(3);
        x.is(1, "controllerAt", 5).call("settle").call("update", 1, 1, 0).carryOut(3).answers(3)
                .is(2, "controllerAt", 5).is(2, "messageAt", 0, 0, 1).call("settle");
        x.are("stampAt", Run.of(0, 0), 1, 1, 1).are("stampAt", Run.of(0, 1), 0, 0, 0).call("update", 2, 1, 0)
                .call("settle").is(3, "controllerAt", 5);
        x.are("stampAt", Run.of(2, 0), 1, 2, 2).are("stampAt", Run.of(2, 1), 1, 1, 1)
                .are("stampAt", Run.of(2, 2), 0, 0, 0).call("update", 3, NONE, 0).carryOut(3).answers(3);
        x.is(1, "controllerAt", 5).is(1, "messageAt", 0, 0, 1).is(15, "controllerAt", 7).call("settle")
                .is(7, "controllerAt", 8).are("stampAt", Run.of(1, 0), NONE, 3, 3).refuses(INDEX, "stampAt", 1, 1, 0);
    }

    private static void waits109() {
        Run x = house(38, "until, at a tick, the time is 109 more than it was as WAITING began")
                .call("update", 0, NONE, 0).call("settle").call("pass", 11);
        x.call("update", 1, NONE, 0).carryOut(3).answers(3).carryOut(3).answers(2).call("pass", 5)
                .is(STAMPING, "controllerAt", 0).answers(1).is(WAITING, "controllerAt", 0).is(16, "controllerAt", 6);
        x.is(1, "controllerAt", 8).is(3, "controllerAt", 7).is(0, "count", 13);
        x.call("pass", 108).is(WAITING, "controllerAt", 0).is(124, "count", 0).is(3, "controllerAt", 7)
                .is(0, "count", 13).is(GOES_ON, "updateAt", 1, 4);
        x.call("pass", 1).is(CLEARING, "controllerAt", 0).is(NONE, "controllerAt", 6).is(2, "controllerAt", 7)
                .is(1, "controllerAt", 8).is(6, "count", 13);
        Run y = in(WAITING, 38, "in one call").is(0, "pass", 109).is(CLEARING, "controllerAt", 0);
        Run z = in(WAITING, 38, "in a longer call").is(0, "pass", 200).is(CLEARING, "controllerAt", 0)
                .is(6, "count", 13).call("settle").is(200, "updateAt", 1, 6);
    }

    private static void waitsAnew() {
        Run x = in(WAITING, 26, "in WAITING the phase begins anew").call("pass", 108).call("stop").call("pass", 200)
                .is(WAITING, "controllerAt", 0).is(0, "controllerAt", 6).is(0, "count", 13);
        x.is(WAITING, "start").call("pass", 150).is(ASKING, "controllerAt", 0).is(0, "controllerAt", 8);
        ask(x).is(WAITING, "controllerAt", 0).is(458, "controllerAt", 6).is(1, "controllerAt", 8).call("settle")
                .call("pass", 108).is(WAITING, "controllerAt", 0).call("pass", 1).is(CLEARING, "controllerAt", 0);
        Run y = in(WAITING, 26, "stopped as long as it would have waited, started too late to clear").call("stop")
                .call("pass", 109).is(0, "count", 13).is(WAITING, "controllerAt", 0);
    }

    private static void clears() {
        Run x = in(CLEARING, 28, "the tags that are to be cleared are in use no more").is(2, "controllerAt", 7)
                .is(1, "controllerAt", 8);
        for (int at = 0; at < 3; at++) {
            messages(x, at, CLEAR, 0, BARRIER, 5);
        }
        x.carryOut(3).answers(2).is(GOES_ON, "updateAt", 1, 4).call("pass", 1).answers(1).is(IDLE, "controllerAt", 0)
                .is(0, "controllerAt", 8).are("updateAt", Run.of(1), 1, NONE, 0, 1, ENDED, 0, 110);
        // no tags are left to be cleared: WAITING and CLEARING do not come
        Run y = house(28, "if there are none, the update has ended").call("update", 0, NONE, 0).call("settle")
                .is(IDLE, "controllerAt", 0).is(ENDED, "updateAt", 0, 4).call("update", 1, 0, 0).call("settle");
        y.is(IDLE, "controllerAt", 0).is(ENDED, "updateAt", 1, 4).is(3, "controllerAt", 7);
    }

    private static void changes() {
        // b and c share the pattern of the marks 0 to 3; that of the marks 4 to 7 is removed
        Run x = house(28, "REMOVE for each rule whose pattern no rule of the new policy has").call("update", 1, 0, 0)
                .call("settle").call("update", 2, NONE, 1);
        messages(x, 0, REMOVE, 0, ADD, 0, ADD, 0, STAMP, 1, BARRIER, 3).are("messageAt", Run.of(0, 0), REMOVE, 0, 4, 4)
                .are("messageAt", Run.of(0, 1), ADD, 0, 4, 0).are("messageAt", Run.of(0, 2), ADD, 0, 6, 4);
        x.is(1, "controllerAt", 5).is(2, "updateAt", 1, 0).call("settle").are("stampAt", Run.of(0, 0), 0, 0, 2)
                .is(2, "switchAt", 0, 0);
        messages(x.call("update", 2, NONE, 1), 0, ADD, 0, ADD, 0, STAMP, 1, BARRIER, 4).call("settle");
        messages(x.call("update", 3, NONE, 1), 0, REMOVE, 0, REMOVE, 0, STAMP, 1, BARRIER, 5)
                .are("messageAt", Run.of(0, 1), REMOVE, 0, 6, 4).call("settle").is(0, "switchAt", 0, 0);
        messages(x.call("update", 3, NONE, 1), 0, STAMP, 1, BARRIER, 6).call("settle").is(ENDED, "updateAt", 4, 4);
        messages(x.call("update", 0, NONE, 1), 0, ADD, 0, STAMP, 1, BARRIER, 7).call("settle")
                .are("stampAt", Run.of(0, 0), 0, 0, 0);
    }

    private static void noRules() {
        Run x = house(28, "a policy without rules").call("update", 3, NONE, 0);
        messages(x, 0, BARRIER, 1).call("settle").is(ENDED, "updateAt", 0, 4).are("stampAt", Run.of(0, 0), NONE, 0, 3)
                .call("send", 0, 0).is(3, "copyAt", 0, 0, 0).is(0, "packetAt", 0, 2);
        x.call("restart", 0).answers(1);
        messages(x, 0, STAMP, 1, BARRIER, 0);
    }

    // ---- what is sent to a switch that says HELLO

    private static void bringsUp() {
        messages(in(IDLE, 30, "IDLE, no tag in use").call("restart", 1).answers(1), 1, STAMP, 0, BARRIER, 0);
        messages(in(ADDING, 30, "ADDING, the new tag alone").call("restart", 1).answers(1), 1, BARRIER, 0, ADD, 0, ADD,
                0, STAMP, 0, BARRIER, 1);
        messages(in(STAMPING, 30, "STAMPING, the new tag alone").call("restart", 1).answers(1), 1, BARRIER, 0, ADD, 0,
                ADD, 0, STAMP, 1, BARRIER, 2);
        messages(in(WAITING, 30, "WAITING: its tag is last").call("restart", 1).answers(1), 1, ADD, 0, BARRIER, 0, ADD,
                1, ADD, 1, STAMP, 1, BARRIER, 0);
        messages(in(CLEARING, 30, "CLEARING of the tag before").call("restart", 1).answers(1), 1, BARRIER, 0, ADD, 1,
                ADD, 1, STAMP, 1, BARRIER, 5);
        messages(in(CHANGING, 30, "CHANGING: no BARRIER 0 in mode 1").call("restart", 1).answers(1), 1, ADD, 0, ADD, 0,
                STAMP, 1, BARRIER, 3);
        messages(in(ASKING, 30, "ASKING: a BARRIER alone").call("restart", 1).answers(1), 1, BARRIER, 1);
        Run x = in(CLEARING, 30, "behind the end: no BARRIER 0").call("settle").call("restart", 1).answers(1);
        messages(x, 1, ADD, 1, ADD, 1, STAMP, 1, BARRIER, 0);
        // a new tag that is not the greatest comes last, too
        x.call("settle").call("update", 0, 0, 0).call("restart", 1).answers(1);
        messages(x, 1, ADD, 1, ADD, 1, BARRIER, 0, ADD, 0, STAMP, 1, BARRIER, 6);
        // cancelled: the new tag is in use no more
        x.call("cancel").call("settle").is(IDLE, "controllerAt", 0).call("update", 0, 0, 0).call("cancel").carryOut(3)
                .answers(3).is(CLEARING, "controllerAt", 0).call("restart", 1).answers(1);
        messages(x, 1, ADD, 1, ADD, 1, STAMP, 1, BARRIER, 9);
        // a new tag without rules for the switch has its BARRIER 0 all the same
        Run y = house(30, "no rules of the new tag").call("update", 3, NONE, 0).call("restart", 1).answers(1);
        messages(y, 1, BARRIER, 0, STAMP, 0, BARRIER, 1);
    }

    private static void bringsUpBehindAsking() {
        int[][] due = {{STAMP, 0, BARRIER, 0},
            {BARRIER, 0, ADD, 0, ADD, 0, STAMP, 0, BARRIER, 0, ADD, 0, ADD, 0, BARRIER, 3},
            {BARRIER, 0, ADD, 0, ADD, 0, STAMP, 1, BARRIER, 0, STAMP, 1, BARRIER, 4},
            {ADD, 0, BARRIER, 0, ADD, 1, ADD, 1, STAMP, 1, BARRIER, 0},
            {BARRIER, 0, ADD, 1, ADD, 1, STAMP, 1, BARRIER, 0, CLEAR, 0, BARRIER, 7},
            {ADD, 0, ADD, 0, STAMP, 1, BARRIER, 0, REMOVE, 0, ADD, 0, ADD, 0, STAMP, 1, BARRIER, 5},
            {STAMP, 0, BARRIER, 0}};
        int[] asking = {1, 2, 3, 5, 6, 4, 2};
        for (int phase = IDLE; phase <= ASKING; phase++) {
            Run x = in(phase, 26,
                    "ASKING is a round without other messages; then each switch is brought up, ahead of what follows");
            x.carryOut(3).call("stop").call("start");
            for (int at = 0; at < 3; at++) {
                messages(x, at, BARRIER, asking[phase]);
            }
            x.carryOut(3).answers(2).is(0, "count", 13).answers(1);
            // the round of ASKING is over, that of the phase has not begun: the last BARRIER of the bring-up has the number 0
            for (int at = 0; at < 3; at++) {
                messages(x, at, due[phase]);
            }
            x.call("settle").call("pass", 109).call("settle").is(IDLE, "controllerAt", 0);
            if (phase != IDLE && phase != ASKING) {
                x.is(ENDED, "updateAt", phase == ADDING || phase == STAMPING ? 0 : 1, 4);
            }
        }
    }

    private static void journal() {
        Run x = in(ADDING, 25, "whether it is cancelled is known").is(0, "cancel").call("stop").is(ADDING, "start")
                .call("settle").is(WAS_CANCELLED, "updateAt", 0, 4);
        Run y = in(ADDING, 25, "in CLEARING, too").is(0, "cancel").carryOut(3).answers(3)
                .is(CLEARING, "controllerAt", 0).call("stop").is(CLEARING, "start").call("settle")
                .is(WAS_CANCELLED, "updateAt", 0, 4);
        Run z = new Run(25, "in CLEARING whether it is refused is known").house(2, FULL).call("update", 1, NONE, 0)
                .carryOut(3).answers(3).is(CLEARING, "controllerAt", 0);
        z.call("stop").call("start").call("stop").is(CLEARING, "start").call("settle")
                .is(WAS_REFUSED, "updateAt", 0, 4);
        // 16 of the 40 patterns are those of the policy before; 24 rules are added ahead of the 24 that are removed, and refused
        Run w = new Run(25, "in CHANGING it is not")
                .house(2, FULL + "policy other { "
                + FORTY.replace("kind", "KIND").replace("mark", "kind").replace("KIND", "mark") + " }");
        w.call("update", 0, NONE, 0).call("settle").call("update", 5, NONE, 1);
        w.is(REMOVE, "messageAt", 0, 23, 0).is(ADD, "messageAt", 0, 24, 0).times(40, "deliver", 0, 24)
                .is(40, "switchAt", 0, 0).carryOut(1).is(16, "switchAt", 0, 0);
        w.is(24, "answerAt", 0, 3).answers(1).call("stop").is(CHANGING, "start").call("settle")
                .is(ENDED, "updateAt", 1, 4).is(40, "switchAt", 0, 0);
    }

    private static void switchesAddedMeanwhile() {
        Run x = new Run(26, "a round without switches is over as it begins").call("stop").is(IDLE, "start")
                .is(IDLE, "controllerAt", 0).is(0, "controllerAt", 1).is(0, "count", 13);
        x.is(0, "addSwitch").call("stop").is(IDLE, "start").is(ASKING, "controllerAt", 0).is(2, "controllerAt", 1)
                .is(1, "addSwitch").is(0, "switchAt", 1, 2);
        x.call("settle").is(ASKING, "controllerAt", 0).is(1, "controllerAt", 2).is(0, "restart", 1)
                .is(HELLO, "answer", 0).is(2, "messageAt", 1, 0, 1).call("deliver", 1, 0).is(ASKING, "controllerAt", 0)
                .is(0, "answer", 0);
        x.is(IDLE, "controllerAt", 0).is(4, "count", 13);
        // STAMP and BARRIER; the switch that comes behind the round has nothing of it
        Run y = new Run(26, "it brings up each switch").is(0, "addSwitch").call("stop").is(IDLE, "start")
                .is(BARRIER, "deliver", 0, 0).is(0, "answer", 0).is(IDLE, "controllerAt", 0).is(2, "switchAt", 0, 2);
        y.is(1, "addSwitch").is(0, "switchAt", 1, 2).is(NONE, "deliver", 1, 0).is(2, "count", 13);
    }

    // ---- promises 27 and 28

    private static void numbersOfUpdates() {
        Run x = in(WAITING, 27, "an update that was begun, what is 0 to 6")
                .are("updateAt", Run.of(0), 0, NONE, 0, 0, ENDED, 0, 0)
                .are("updateAt", Run.of(1), 1, NONE, 0, 1, GOES_ON, 0, NONE);
        x.refuses(INDEX, "updateAt", -1, 0).refuses(INDEX, "updateAt", 2, 0).refuses(INDEX, "updateAt", MAX, 0)
                .refuses(INDEX, "updateAt", 2, 7).refuses(INDEX, "updateAt", -1, -1);
        x.refuses(ARGUMENT, "updateAt", 0, -1).refuses(ARGUMENT, "updateAt", 1, 7)
                .refuses(ARGUMENT, "updateAt", 0, MIN);
    }

    private static void numbersOfTheController() {
        for (int phase = IDLE; phase <= ASKING; phase++) {
            Run x = in(phase, 28, "what is 0 to 8").call("controllerAt", 0).call("controllerAt", 8);
            x.refuses(ARGUMENT, "controllerAt", -1).refuses(ARGUMENT, "controllerAt", 9)
                    .refuses(ARGUMENT, "controllerAt", MAX).refuses(ARGUMENT, "controllerAt", MIN);
        }
    }
}
