import java.util.ArrayList;
import java.util.List;

/** Asks all that can be asked behind some calls; no object gets more calls than the document promises. */
final class Look {
    private final List<Run.Call> changes;
    private final List<Run.Call> questions = new ArrayList<>();
    private final List<String> told = new ArrayList<>();
    private FlowHouse house;
    private int calls = Run.MOST_CALLS;

    Look(List<Run.Call> changes) {
        this.changes = changes;
    }

    List<String> told() {
        return told;
    }

    List<Run.Call> questions() {
        return questions;
    }

    void all() {
        for (int i = 0; i < 16; i++) {
            ask("count", i);
        }
        for (int i = 0; i < 9; i++) {
            ask("controllerAt", i);
        }
        for (String name : new String[] {"isConsistent", "errors", "deliveredShare", "meanRules", "errorKind", "errorPlace"}) {
            ask(name);
        }
        int switches = ask("count", 1);
        int policies = ask("count", 4);
        network(switches);
        policies(policies);
        controller();
        for (int at = 0; at < switches; at++) {
            station(at);
        }
        for (int packet = 0, n = ask("count", 7); packet < n; packet++) {
            packet(packet, policies);
        }
    }

    private void network(int switches) {
        for (int i = 0; i < switches * 6; i++) {
            ask("portAt", i / 6, i % 6);
        }
        for (int host = 0, n = ask("count", 3); host < n; host++) {
            for (int i = 0; i < 60 && ask("deliveredAt", host, i, 0) != Run.NONE; i++) {
                for (int what = 1; what < 4; what++) {
                    ask("deliveredAt", host, i, what);
                }
            }
        }
    }

    private void policies(int policies) {
        for (int i = 0; i < policies * 8; i++) {
            int rules = ask("rules", i / 8, i % 8);
            // the rules of the switches that a network is likely to have, and of the last one
            for (int j = 0; j < rules * 3 && (i % 8 < 3 || i % 8 == 7); j++) {
                ask("ruleAt", i / 8, i % 8, j / 3, j % 3);
            }
            for (int what = 0; what < 5; what++) {
                ask("actionAt", i / 8, i % 8, 64, 0, what);
            }
        }
        for (int slice = 0, n = ask("count", 5); slice < n; slice++) {
            for (int header = 0; header < 8; header++) {
                ask("has", slice, header * 2113);
            }
        }
    }

    /** These take longer, and tell nothing that the rules and ports do not. */
    void walks() {
        ask("reach", 0, 0, 1);
        ask("avoids", 0, 0, 1, 2);
        ask("astray", 1, 0);
        ask("differsAt", 0, 1, 0);
    }

    private void controller() {
        for (int i = 0, n = ask("count", 6) * 7; i < n; i++) {
            ask("updateAt", i / 7, i % 7);
        }
        for (int i = 0, n = ask("controllerAt", 3) * 4; i < n; i++) {
            ask("answerAt", i / 4, i % 4);
        }
    }

    private void station(int at) {
        for (int i = 0; i < 5; i++) {
            ask("switchAt", at, i);
        }
        for (int i = 0, n = ask("switchAt", at, 0) * 5; i < n; i++) {
            ask("tableAt", at, i / 5, i % 5);
        }
        for (int i = 0, n = ask("switchAt", at, 1) * 3; i < n; i++) {
            ask("stampAt", at, i / 3, i % 3);
        }
        for (int i = 0, n = ask("switchAt", at, 2) * 4; i < n; i++) {
            ask("messageAt", at, i / 4, i % 4);
        }
    }

    private void packet(int packet, int policies) {
        for (int i = 0; i < 9; i++) {
            ask("packetAt", packet, i);
        }
        for (int i = 0, n = ask("packetAt", packet, 4) * 9; i < n; i++) {
            ask("copyAt", packet, i / 9, i % 9);
        }
        for (int i = 0; i < policies; i++) {
            ask("isBy", packet, i);
        }
        ask("isWhole", packet);
    }

    /** The answer as a number; NONE if it is none. */
    private int ask(String name, long... numbers) {
        if (calls >= Run.MOST_CALLS) {
            makeAgain();
        }
        calls++;
        Run.Call call = new Run.Call(name, numbers);
        String answer = call.on(house);
        questions.add(call);
        told.add(call + " = " + answer);
        return answer.matches("-?[0-9]+") ? Integer.parseInt(answer) : Run.NONE;
    }

    private void makeAgain() {
        house = new FlowHouse();
        calls = 0;
        for (Run.Call change : changes) {
            change.on(house);
            calls++;
        }
        if (calls > Run.MOST_CALLS - 50) {
            throw new IllegalStateException("no calls are left to look");
        }
    }
}
