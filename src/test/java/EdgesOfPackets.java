/** The boundaries that section 3 and the promises 37 to 43 name: packets, copies, what is delivered. */
public final class EdgesOfPackets {
    private static final int NONE = -1;
    private static final int MAX = Integer.MAX_VALUE, MIN = Integer.MIN_VALUE;
    private static final int UNDER_WAY = 0, HANDLED = 1, DELIVERED = 2, DROPPED = 3, LOST = 4, CUT = 5, EXPIRED = 6;
    private static final Class<? extends RuntimeException> INDEX = Run.INDEX, ARGUMENT = Run.ARGUMENT,
            STATE = Run.STATE, ELEMENT = Run.ELEMENT;

    public static void main(String[] args) {
        numbersOfSend();
        sixtyPackets();
        headers();
        stamps();
        rulesOfItsTagAlone();
        firstRuleThatFits();
        ticks();
        arrivals();
        orderOfArrivals();
        sameCopies();
        portsToGoOutAt();
        copies64();
        copies65();
        copiesThatAreTheSameAreNotBeyond();
        firstOnesOrNone();
        twelveLinks();
        thirteenthLink();
        numbersOfPackets();
        numbersOfCopies();
        isBy();
        isWhole();
        deliveredAt();
        Run.end("EdgesOfPackets");
    }

    /** A house on which policy 0 is in force. */
    private static Run running(int promise, String sentence, int network, String text) {
        return new Run(promise, sentence).house(network, text).call("update", 0, NONE, 0).call("settle");
    }

    // ---- promise 37

    private static void numbersOfSend() {
        Run x = running(37, "a host that is there, a header 0 to 16383", 2, "policy a { out 1 }");
        x.refuses(INDEX, "send", -1, 0).refuses(INDEX, "send", 3, 0).refuses(INDEX, "send", MAX, 0)
                .refuses(INDEX, "send", MIN, 0);
        x.refuses(ARGUMENT, "send", 0, -1).refuses(ARGUMENT, "send", 0, 16384).refuses(ARGUMENT, "send", 2, MAX)
                .refuses(ARGUMENT, "send", 0, MIN);
        x.refuses(INDEX, "send", 3, 16384).refuses(INDEX, "send", -1, -1).is(0, "count", 7);
        x.is(0, "send", 0, 0).is(1, "send", 2, 16383).is(0, "packetAt", 0, 1).is(16383, "packetAt", 1, 1)
                .is(2, "packetAt", 1, 0);
    }

    private static void sixtyPackets() {
        Run x = running(37, "at most 60 packets are sent", 2, "policy a { drop }");
        for (int i = 0; i < 60; i++) {
            x.is(i, "send", i % 3, 16383 - i);
        }
        x.refuses(STATE, "send", 0, 0).is(60, "count", 7).is(16383 - 59, "packetAt", 59, 1)
                .refuses(INDEX, "packetAt", 60, 0);
        x.refuses(INDEX, "send", 3, 0).refuses(ARGUMENT, "send", 0, 16384).refuses(INDEX, "send", 3, -1)
                .refuses(STATE, "send", 2, 16383);
        Run y = new Run(37, "packets without a tag count, too").call("build", 2).times(60, "send", 0, 0)
                .refuses(STATE, "send", 0, 0).is(60, "count", 12);
    }

    private static void headers() {
        Run x = running(40, "from, to, kind and mark in a header", 2,
                "policy a { if in 0 { out 2 | from := 15 ; out 2 | to := 15 ; out 2 | kind := 7 ; out 2 | mark := 7 ; out 2 } else { from := 0 ; to := 0 ; kind := 0 ; mark := 0 ; out 2 } }");
        x.is(0, "send", 0, 0).is(1, "send", 1, 16383).is(6, "packetAt", 0, 4);
        // in order: nothing, mark, kind, to, from
        int[] due = {0, 7, 7 * 8, 15 * 64, 15 * 1024};
        for (int i = 0; i < 5; i++) {
            x.is(due[i], "copyAt", 0, 1 + i, 1).is(due[i], "deliveredAt", 1, i, 2);
        }
        x.is(0, "copyAt", 1, 1, 1).is(2, "send", 0, 16383).is(2, "packetAt", 2, 4).is(16383, "copyAt", 2, 1, 1);
    }

    private static void stamps() {
        Run x = new Run(37, "the first entry whose slice has its header; if there is none, neither tag nor policy");
        x.house(2, "policy a { out 1 } policy b { out 2 } slice s { mark = 0 .. 3 } slice t { mark = 2 .. 5 }")
                .is(0, "send", 0, 0);
        x.are("packetAt", Run.of(0), 0, 0, NONE, NONE, 1, 0, 0, 0, 0)
                .are("copyAt", Run.of(0, 0), DROPPED, 0, NONE, NONE, 0, 0, NONE, 0, 0);
        x.call("update", 0, 0, 0).call("settle").call("update", 1, 1, 0).call("settle");
        int[] tags = {0, 0, 1, 1, 1, 1, NONE, NONE};
        for (int mark = 0; mark < 8; mark++) {
            x.is(1 + mark, "send", 0, mark).is(tags[mark], "packetAt", 1 + mark, 2)
                    .is(tags[mark], "packetAt", 1 + mark, 3);
            x.is(tags[mark] == NONE ? DROPPED : HANDLED, "copyAt", 1 + mark, 0, 0)
                    .is(tags[mark] == NONE ? 1 : 2, "packetAt", 1 + mark, 4);
        }
        // by the list of the switch at which it enters, which may be another one than that of the controller
        x.call("update", 0, NONE, 0).carryOut(3).answers(3).is(3, "deliver", 2, 0).is(9, "send", 2, 7)
                .is(2, "packetAt", 9, 2).is(10, "send", 0, 7).is(NONE, "packetAt", 10, 2);
    }

    private static void rulesOfItsTagAlone() {
        Run x = new Run(40, "of the rules of the switch that have the packet's tag")
                .house(2, "policy a { out 1 } policy b { at 0 { out 1 } } slice s { mark = 0 }");
        x.call("update", 0, NONE, 0).call("settle").call("update", 1, 0, 0).call("settle").call("send", 0, 0)
                .call("send", 0, 1);
        x.are("tableAt", Run.of(0, 0), 0, 0, 0, 1, 1).are("tableAt", Run.of(0, 1), 1, 0, 0, 1, 1).is(1, "pass", 9);
        x.is(DROPPED, "copyAt", 0, 1, 0).is(HANDLED, "copyAt", 1, 1, 0).is(1, "tableAt", 1, 0, 4)
                .is(1, "switchAt", 1, 0);
    }

    private static void firstRuleThatFits() {
        // the rules of the policy before are still ahead of the new one, which fits all rows
        Run x = new Run(40, "the first one that fits the port and the header counts it")
                .house(2, "policy a { if mark = 0 .. 3 { out 2 } else { out 3 } } policy b { out 0 }");
        x.call("update", 0, NONE, 0).call("settle").call("update", 1, NONE, 1).is(0, "deliver", 0, 2)
                .is(3, "switchAt", 0, 0).call("send", 0, 3).call("send", 0, 4);
        x.is(2, "copyAt", 0, 1, 3).is(3, "copyAt", 1, 1, 3).is(1, "tableAt", 0, 0, 4).is(1, "tableAt", 0, 1, 4)
                .is(0, "tableAt", 0, 2, 4);
        x.is(1, "deliver", 0, 1).call("send", 0, 3).call("send", 0, 4).is(2, "copyAt", 2, 1, 3).is(0, "copyAt", 3, 1, 3)
                .is(2, "tableAt", 0, 0, 4).is(1, "tableAt", 0, 1, 4);
        x.is(1, "deliver", 0, 0).call("send", 0, 3).is(0, "copyAt", 4, 1, 3).is(2, "tableAt", 0, 0, 4)
                .is(1, "switchAt", 0, 0);
    }

    // ---- promise 38 and the time

    private static void ticks() {
        Run x = running(38, "ticks is 1 to 200", 2, "policy a { out 1 }").call("send", 0, 0);
        x.refuses(ARGUMENT, "pass", 0).refuses(ARGUMENT, "pass", -1).refuses(ARGUMENT, "pass", 201)
                .refuses(ARGUMENT, "pass", MAX).refuses(ARGUMENT, "pass", MIN);
        x.is(0, "count", 0).is(0, "pass", 1).is(1, "count", 0).is(3, "pass", 200).is(201, "count", 0)
                .is(0, "pass", 200);
    }

    private static void arrivals() {
        Run x = running(38, "how many copies became HANDLED or DELIVERED", 2,
                "policy a { at 0 { out 1 | out 2 | out 3 } | at 1 { out 1 | out 2 } | at 2 { if mark = 1 { drop } else { out 1 | out 5 } } }");
        x.call("send", 0, 0).call("send", 0, 1).are("packetAt", Run.of(0), 0, 0, 0, 0, 4, 1, 1, 0, 0).is(0, "pass", 8)
                .is(2, "pass", 1);
        x.are("copyAt", Run.of(0, 1), HANDLED, 0, 0, 1, 1, 0, NONE, 1, 9)
                .are("copyAt", Run.of(0, 4), UNDER_WAY, 0, 1, 1, 2, 0, NONE, 2, 10)
                .are("copyAt", Run.of(0, 5), LOST, 0, 1, 2, NONE, NONE, NONE, 1, 9);
        // packet 0 is handled and delivered at switch 2, packet 1 is dropped
        x.is(2, "pass", 1).are("copyAt", Run.of(0, 6), DELIVERED, 0, 4, 1, NONE, NONE, 2, 2, 10)
                .are("copyAt", Run.of(0, 7), LOST, 0, 4, 5, NONE, NONE, NONE, 2, 10);
        x.are("copyAt", Run.of(1, 4), DROPPED, 1, 1, 1, 2, 0, NONE, 2, 10)
                .are("packetAt", Run.of(0), 0, 0, 0, 0, 8, 0, 2, 0, 0).is(0, "pass", 200);
    }

    private static void orderOfArrivals() {
        // two ways to switch 3, of 4 ticks each; packet 1 is sent a tick later
        Run x = running(38,
                "the copies that arrive at a time, by their packets, and those of a packet by their numbers", 0,
                "policy a { at 0 { mark := 1 ; out 2 | out 1 } | at 1, 2 { out 1 } | at 3 { out 2 } }");
        x.call("send", 0, 0).call("pass", 1).call("send", 0, 64).is(3, "pass", 2).is(3 + 2, "pass", 1)
                .is(2 + 2, "pass", 1);
        int[][] due = {{0, 5, 0, 4}, {0, 6, 1, 4}, {1, 5, 64, 5}, {1, 6, 65, 5}};
        for (int i = 0; i < 4; i++) {
            x.are("deliveredAt", Run.of(1, i), due[i][0], due[i][1], due[i][2], due[i][3]);
        }
        x.refuses(ELEMENT, "deliveredAt", 1, 4, 0);
        Run y = running(38, "by their packets, not by when they set off", 2,
                "policy a { at 0 { out 1 } | at 1 { out 1 } | at 2 { out 0 | out 1 } }");
        y.call("send", 0, 0).call("pass", 8).call("send", 2, 1).call("send", 2, 2).is(3, "pass", 1).is(2, "count", 10);
        y.is(3 + 3, "pass", 1).are("deliveredAt", Run.of(2, 2), 0, 4, 0, 10)
                .are("deliveredAt", Run.of(2, 3), 1, 5, 1, 10).are("deliveredAt", Run.of(2, 4), 2, 5, 2, 10);
    }

    // ---- copies

    private static void sameCopies() {
        Run x = running(40, "the same header and the same port as one ahead of it", 2,
                "policy a { out 0 | out 2 | mark := 0 ; out 2 | kind := 0 ; out 2 | mark := 0 ; kind := 0 ; out 2 | mark := 0 ; out 0 }");
        x.is(0, "send", 0, 0).is(3, "packetAt", 0, 4).is(1, "send", 0, 1).is(5, "packetAt", 1, 4).is(2, "send", 0, 8)
                .is(4, "packetAt", 2, 4).is(3, "send", 0, 9).is(7, "packetAt", 3, 4);
        x.are("copyAt", Run.of(0, 1), DELIVERED, 0, 0, 0, NONE, NONE, 0, 0, 0)
                .are("copyAt", Run.of(0, 2), DELIVERED, 0, 0, 2, NONE, NONE, 1, 0, 0);
        x.is(1, "copyAt", 1, 1, 1).is(0, "copyAt", 1, 2, 1).is(1, "copyAt", 1, 3, 1).is(0, "copyAt", 1, 4, 1);
        x.is(4, "tableAt", 0, 0, 4).is(1, "isBy", 0, 0).is(1, "isBy", 3, 0).is(1, "isWhole", 2);
    }

    private static void portsToGoOutAt() {
        Run x = running(40, "each port, and what is there", 2,
                "policy a { out 0 | out 1 | out 2 | out 3 | out 4 | out 5 }").is(0, "send", 0, 5);
        int[] states = {DELIVERED, UNDER_WAY, DELIVERED, LOST, LOST, LOST};
        int[] hosts = {0, NONE, 1, NONE, NONE, NONE};
        for (int port = 0; port < 6; port++) {
            boolean isMoving = port == 1;
            x.are("copyAt", Run.of(0, 1
                    + port), states[port], 5, 0, port, isMoving ? 1 : NONE, isMoving ? 0 : NONE, hosts[port],
                    isMoving ? 1 : 0, isMoving ? 9 : 0);
        }
        x.call("setLink", 0, 0).is(CUT, "copyAt", 0, 2, 0).is(1, "send", 0, 5)
                .are("copyAt", Run.of(1, 2), CUT, 5, 0, 1, NONE, NONE, NONE, 0, 0);
    }

    /** 8 copies from switch 0 to 1, 7 of each of the first 7 there: 58 with the first one; then what LAST tells. */
    private static final String FLOOD = "{ if in 0 { (mark := 0|mark := 1|mark := 2|mark := 3|mark := 4|mark := 5|mark := 6|mark := 7); out 1 } else { "
            + "if mark = 0 .. 6 { (kind := 0|kind := 1|kind := 2|kind := 3|kind := 4|kind := 5|kind := 6); out 2MORE } else { LAST } } }";
    private static final String FIVE = "(kind := 0|kind := 1|kind := 2|kind := 3|kind := 4); out 2";
    private static final String SIX = "(kind := 0|kind := 1|kind := 2|kind := 3|kind := 4|kind := 5); out 2";

    private static String flood(String more, String last) {
        return FLOOD.replace("MORE", more).replace("LAST", last);
    }

    private static Run flooded(int promise, String sentence, String text) {
        Run x = new Run(promise, sentence).times(2, "addSwitch").call("addLink", 0, 1, 1, 1, 1);
        x.call("addHost", 0, 0).call("addHost", 1, 2).call("addHost", 1, 3).text(text).call("load");
        return x.call("update", 0, NONE, 0).call("settle");
    }

    private static void copies64() {
        Run x = flooded(39, "a packet has at most 64 copies: 64", "policy a " + flood("", FIVE + " | out 3"))
                .is(0, "send", 0, 0).is(9, "packetAt", 0, 4);
        x.is(8 + 55, "pass", 1).are("packetAt", Run.of(0), 0, 0, 0, 0, 64, 0, 55, 0, 0)
                .are("copyAt", Run.of(0, 63), DELIVERED, 7, 8, 3, NONE, NONE, 2, 1, 1);
        x.are("deliveredAt", Run.of(2, 0), 0, 63, 7, 1).refuses(ELEMENT, "deliveredAt", 1, 54, 0)
                .is(62, "deliveredAt", 1, 53, 1);
        x.is(1, "isBy", 0, 0).is(1, "isWhole", 0).is(0, "count", 12).is(64, "count", 8)
                .refuses(INDEX, "copyAt", 0, 64, 0);
    }

    private static void copies65() {
        Run x = flooded(39, "a packet has at most 64 copies: 65 would be made", "policy a "
                + flood("", SIX + " | out 3")).is(0, "send", 0, 0).is(0, "packetAt", 0, 7).is(1, "isWhole", 0);
        x.is(8 + 55, "pass", 1).are("packetAt", Run.of(0), 0, 0, 0, 0, 64, 0, 55, 1, 0)
                .are("copyAt", Run.of(0, 63), DELIVERED, 5 * 8 + 7, 8, 2, NONE, NONE, 1, 1, 1);
        x.refuses(ELEMENT, "deliveredAt", 2, 0, 0).is(HANDLED, "copyAt", 0, 8, 0).is(1, "isBy", 0, 0)
                .is(0, "isWhole", 0).is(1, "count", 12).is(0, "count", 11);
        x.refuses(INDEX, "copyAt", 0, 64, 0).is(64, "count", 8);
    }

    private static void copiesThatAreTheSameAreNotBeyond() {
        Run x = flooded(39, "what would be the same as one ahead of it is not made, and is not missing", "policy a "
                + flood("", FIVE + " | out 3 | kind := 1 ; out 3"));
        x.call("send", 0, 8).call("send", 0, 0).is(2 * 63, "pass", 1).is(0, "packetAt", 0, 7).is(64, "packetAt", 0, 4)
                .is(1, "packetAt", 1, 7).is(64, "packetAt", 1, 4);
        x.is(1, "isWhole", 0).is(0, "isWhole", 1).is(63, "deliveredAt", 2, 0, 1).is(63, "deliveredAt", 2, 1, 1)
                .refuses(ELEMENT, "deliveredAt", 2, 2, 0);
        Run y = flooded(39, "one that makes none leaves room", "policy a "
                + flood("", "pass ; out 2 | " + FIVE + " | out 3")).call("send", 0, 4 * 8).call("send", 0, 5 * 8)
                .call("pass", 1);
        y.is(0, "packetAt", 0, 7).is(1, "packetAt", 1, 7).is(0, "deliveredAt", 2, 0, 0)
                .refuses(ELEMENT, "deliveredAt", 2, 1, 0);
    }

    private static void firstOnesOrNone() {
        // b makes more of the copy that was cut short, c more of one that was not, d less, e other ones, f more, but not behind
        Run x = flooded(41, "if the packet was cut short: these, or the first ones of them, or none", "policy a "
                + flood("", SIX + " | out 3") + "policy b " + flood("", SIX + " | out 3 | out 4")
                + "policy c " + flood(" | out 5", SIX + " | out 3") + "policy d " + flood("", FIVE + " | out 3")
                        + "policy e " + flood("", SIX.replace("out 2", "out 3") + " | out 2") + "policy f "
                        + flood("", SIX + " | out 0"));
        x.call("send", 0, 0).is(1, "isBy", 0, 4).is(1, "isBy", 0, 5).call("pass", 1).is(1, "packetAt", 0, 7);
        x.is(1, "isBy", 0, 0).is(1, "isBy", 0, 1).is(1, "isBy", 0, 2).is(0, "isBy", 0, 3).is(0, "isBy", 0, 4)
                .is(0, "isBy", 0, 5);
        // the same policies by a packet that was not cut short
        Run y = flooded(41, "if it was not: just these", "policy a " + flood("", FIVE) + "policy b "
                + flood("", FIVE + " | out 3") + "policy c " + flood(" | out 5", FIVE) + "policy d "
                + flood("", FIVE.replace("|kind := 4", "")));
        y.call("send", 0, 0).call("pass", 1).is(63, "packetAt", 0, 4).is(0, "packetAt", 0, 7).is(1, "isBy", 0, 0)
                .is(0, "isBy", 0, 1).is(0, "isBy", 0, 2).is(0, "isBy", 0, 3);
        // 8 of each of 8: the last copy that is handled makes none
        Run z = flooded(41, "or none",
                "policy a { (mark := 0|mark := 1|mark := 2|mark := 3|mark := 4|mark := 5|mark := 6|mark := 7); if in 0 { out 1 } else { out 2 } }");
        z.call("send", 0, 0).is(8 + 55, "pass", 1).is(HANDLED, "copyAt", 0, 8, 0).is(7, "copyAt", 0, 63, 2)
                .is(1, "isBy", 0, 0).is(0, "isWhole", 0);
    }

    // ---- links

    /** On the ring, from host 0: a copy comes back to switch 0 by 4, 8 and 12 links; then it does what LAST tells. */
    private static final String ROUNDS = "policy a { at 0 { if in 2 { mark := 1; out 1 } else { if mark = 1 { mark := 2; out 1 } else "
            + "{ if mark = 2 { mark := 3; out 1 } else { LAST } } } } | at 1, 2, 3 { out 1 } }";

    private static void twelveLinks() {
        Run x = running(40, "a copy on its 12th link", 1, ROUNDS.replace("LAST", "out 2 | out 4")).call("send", 0, 0)
                .call("pass", 29);
        x.are("copyAt", Run.of(0, 12), UNDER_WAY, 3, 11, 1, 0, 0, NONE, 12, 30).is(2, "pass", 1)
                .are("copyAt", Run.of(0, 12), HANDLED, 3, 11, 1, 0, 0, NONE, 12, 30);
        x.are("copyAt", Run.of(0, 13), DELIVERED, 3, 12, 2, NONE, NONE, 0, 12, 30)
                .are("copyAt", Run.of(0, 14), LOST, 3, 12, 4, NONE, NONE, NONE, 12, 30).is(1, "isWhole", 0);
        Run y = running(40, "cut on its 12th link", 1, ROUNDS.replace("LAST", "out 2")).call("send", 0, 0)
                .call("pass", 29).is(1, "setLink", 3, 0)
                .are("copyAt", Run.of(0, 12), CUT, 3, 11, 1, NONE, NONE, NONE, 12, 29);
        y.is(0, "isWhole", 0);
    }

    private static void thirteenthLink() {
        Run x = running(40, "EXPIRED instead of on its 13th link", 1, ROUNDS.replace("LAST", "out 1"))
                .call("send", 0, 0).call("pass", 29).is(1, "count", 9).is(1, "pass", 1);
        x.are("copyAt", Run.of(0, 13), EXPIRED, 3, 12, 1, NONE, NONE, NONE, 12, 30).is(0, "count", 9)
                .is(1, "isWhole", 0).is(1, "isBy", 0, 0).is(0, "setLink", 0, 0).is(EXPIRED, "copyAt", 0, 13, 0);
        Run y = running(40, "if the link is down, CUT, also on its 13th link", 1, ROUNDS.replace("LAST", "out 1"))
                .call("send", 0, 0).call("pass", 29).call("setLink", 0, 0).is(1, "pass", 1);
        y.are("copyAt", Run.of(0, 13), CUT, 3, 12, 1, NONE, NONE, NONE, 12, 30).is(0, "isWhole", 0);
    }

    // ---- promises 39 to 43: numbers

    private static void numbersOfPackets() {
        Run x = running(39, "a packet that is there, what is 0 to 8", 2, "policy a { out 1 | out 2 }").call("pass", 3)
                .call("send", 1, 7).call("send", 0, 16383);
        x.are("packetAt", Run.of(0), 1, 7, 0, 0, 3, 1, 1, 0, 3)
                .are("packetAt", Run.of(1), 0, 16383, 0, 0, 3, 1, 1, 0, 3);
        x.refuses(INDEX, "packetAt", -1, 0).refuses(INDEX, "packetAt", 2, 0).refuses(INDEX, "packetAt", MAX, 0)
                .refuses(INDEX, "packetAt", 2, 9).refuses(INDEX, "packetAt", -1, -1);
        x.refuses(ARGUMENT, "packetAt", 0, -1).refuses(ARGUMENT, "packetAt", 1, 9)
                .refuses(ARGUMENT, "packetAt", 0, MIN);
    }

    private static void numbersOfCopies() {
        Run x = running(40, "a copy that is there, what is 0 to 8", 2, "policy a { out 1 | out 2 }").call("send", 0, 7)
                .call("send", 0, 8);
        x.are("copyAt", Run.of(0, 0), HANDLED, 7, NONE, NONE, 0, 0, NONE, 0, 0)
                .are("copyAt", Run.of(1, 2), DELIVERED, 8, 0, 2, NONE, NONE, 1, 0, 0);
        x.refuses(INDEX, "copyAt", -1, 0, 0).refuses(INDEX, "copyAt", 2, 0, 0).refuses(INDEX, "copyAt", 0, -1, 0)
                .refuses(INDEX, "copyAt", 0, 3, 0).refuses(INDEX, "copyAt", MAX, 0, 0)
                .refuses(INDEX, "copyAt", 0, MIN, 0);
        x.refuses(INDEX, "copyAt", 2, 0, 9).refuses(INDEX, "copyAt", 0, 3, 9).refuses(INDEX, "copyAt", 0, -1, -1);
        x.refuses(ARGUMENT, "copyAt", 0, 0, -1).refuses(ARGUMENT, "copyAt", 1, 2, 9)
                .refuses(ARGUMENT, "copyAt", 0, 0, MAX);
    }

    private static void isBy() {
        Run x = running(41, "a packet and a policy that are there", 2,
                "policy a { out 1 } policy b { out 1 | at 1 { out 2 } } policy c { drop }").call("send", 0, 0);
        x.refuses(INDEX, "isBy", -1, 0).refuses(INDEX, "isBy", 1, 0).refuses(INDEX, "isBy", 0, -1)
                .refuses(INDEX, "isBy", 0, 3).refuses(INDEX, "isBy", MAX, 0).refuses(INDEX, "isBy", 0, MIN);
        x.is(1, "isBy", 0, 0).is(1, "isBy", 0, 1).is(0, "isBy", 0, 2).call("pass", 8).is(1, "isBy", 0, 1)
                .call("pass", 1).is(0, "isBy", 0, 1).is(1, "isBy", 0, 0);
        Run y = new Run(41, "without a copy that was handled it did").house(2, "policy a { out 1 }").call("send", 0, 0)
                .is(1, "isBy", 0, 0).is(0, "count", 11);
    }

    private static void isWhole() {
        Run x = running(42, "a packet that is there", 2,
                "policy a { at 0 { if mark = 1 { drop } else { if mark = 2 { out 3 } else { out 1 } } } | at 1 { out 1 } | at 2 { out 1 } }").call("send", 0, 0);
        x.refuses(INDEX, "isWhole", -1).refuses(INDEX, "isWhole", 1).refuses(INDEX, "isWhole", MAX)
                .refuses(INDEX, "isWhole", MIN);
        x.call("send", 0, 1).call("send", 0, 2).is(1, "isWhole", 0).is(1, "isWhole", 1).is(1, "isWhole", 2)
                .is(DROPPED, "copyAt", 1, 0, 0).is(LOST, "copyAt", 2, 1, 0);
        x.call("restart", 1).is(1, "isWhole", 0).call("pass", 8).is(1, "isWhole", 0).call("pass", 1).is(0, "isWhole", 0)
                .is(1, "isBy", 0, 0).is(DROPPED, "copyAt", 0, 1, 0);
        x.call("restart", 0).call("send", 0, 0).is(0, "isWhole", 3).is(2, "count", 12).call("answer", 0)
                .call("answer", 0).call("settle").call("send", 0, 0).is(1, "isWhole", 4).is(1, "setLink", 0, 0)
                .is(0, "isWhole", 4);
        // the messages are ADD, STAMP, BARRIER; the choice 1 of them is STAMP, so that only the rule is missing
        Run y = running(42, "no copy was dropped for which the policy has an action, be it the first one", 2,
                "policy a { if mark = 0 { out 1 } }").call("restart", 0).call("answer", 0);
        y.is(3, "deliver", 0, 1).call("send", 0, 0).call("send", 0, 1).is(0, "packetAt", 0, 3)
                .is(DROPPED, "copyAt", 0, 0, 0).is(1, "isBy", 0, 0).is(0, "isWhole", 0).is(1, "isWhole", 1)
                .is(1, "count", 12);
    }

    private static void deliveredAt() {
        Run x = running(43, "a host that is there, what is 0 to 3, what was delivered to it", 2,
                "policy a { at 0 { out 0 | out 2 } }").call("pass", 2).call("send", 0, 3).call("send", 0, 4);
        x.are("deliveredAt", Run.of(1, 0), 0, 2, 3, 2).are("deliveredAt", Run.of(0, 1), 1, 1, 4, 2);
        x.refuses(INDEX, "deliveredAt", -1, 0, 0).refuses(INDEX, "deliveredAt", 3, 0, 0)
                .refuses(INDEX, "deliveredAt", MAX, 0, 0).refuses(INDEX, "deliveredAt", MIN, 0, 0);
        x.refuses(ARGUMENT, "deliveredAt", 0, 0, -1).refuses(ARGUMENT, "deliveredAt", 1, 0, 4)
                .refuses(ARGUMENT, "deliveredAt", 1, 0, MAX);
        x.refuses(ELEMENT, "deliveredAt", 0, -1, 0).refuses(ELEMENT, "deliveredAt", 0, 2, 0)
                .refuses(ELEMENT, "deliveredAt", 2, 0, 0).refuses(ELEMENT, "deliveredAt", 1, MAX, 3)
                .refuses(ELEMENT, "deliveredAt", 1, MIN, 0);
        x.refuses(INDEX, "deliveredAt", 3, 0, 4).refuses(INDEX, "deliveredAt", 3, -1, 0)
                .refuses(INDEX, "deliveredAt", -1, 9, 9).refuses(ARGUMENT, "deliveredAt", 0, 2, 4)
                .refuses(ARGUMENT, "deliveredAt", 2, 0, -1);
    }
}
