/** Promises 37 to 43: packets, their copies, and where they are delivered. */
public final class PacketPromises {
    private static final Due DUE = new Due();
    private static final int NONE = FlowHouse.NONE;
    private static final int UNDER_WAY = FlowHouse.UNDER_WAY, HANDLED = FlowHouse.HANDLED, DELIVERED = FlowHouse.DELIVERED;
    private static final int DROPPED = FlowHouse.DROPPED, LOST = FlowHouse.LOST, CUT = FlowHouse.CUT, EXPIRED = FlowHouse.EXPIRED;

    public static void main(String[] args) {
        send();
        stamps();
        pass();
        packetAt();
        copies();
        sameCopies();
        expired();
        cutShort();
        isBy();
        isWhole();
        deliveredAt();
        DUE.end("PacketPromises");
    }

    /** A house on which policy 0 is in force. */
    private static FlowHouse running(int network, String text) {
        FlowHouse x = Due.house(network, text);
        x.update(0, NONE, 0);
        x.settle();
        return x;
    }

    private static void copyIs(FlowHouse x, int packet, int copy, int... due) {
        DUE.are(40, "copyAt(" + packet + ", " + copy + ")", i -> x.copyAt(packet, copy, i), due);
    }

    private static void send() {
        FlowHouse x = running(2, "policy a { drop }");
        DUE.noIndex(37, "host 3", () -> x.send(3, 0));
        DUE.noIndex(37, "host -1", () -> x.send(-1, 16384));
        DUE.noArgument(37, "header 16384", () -> x.send(0, 16384));
        DUE.noArgument(37, "header -1", () -> x.send(0, -1));
        for (int i = 0; i < 60; i++) {
            DUE.is(37, "send", x.send(i % 3, 16383), i);
        }
        DUE.noArgument(37, "the argument goes ahead", () -> x.send(0, -1));
        DUE.noState(37, "a 61st packet", () -> x.send(0, 0));
        DUE.is(37, "count(7)", x.count(7), 60);
        copyIs(x, 59, 0, DROPPED, 16383, NONE, NONE, 2, 1, NONE, 0, 0);
    }

    private static void stamps() {
        FlowHouse x = Due.house(2, "policy a { out 1 } policy b { out 2 } slice s { mark = 0 .. 3 } slice t { mark = 2 .. 5 }");
        x.send(0, 0);
        DUE.are(37, "a packet without a tag", i -> x.packetAt(0, i), 0, 0, NONE, NONE, 1, 0, 0, 0, 0);
        copyIs(x, 0, 0, DROPPED, 0, NONE, NONE, 0, 0, NONE, 0, 0);
        x.update(0, 0, 0);
        x.settle();
        x.update(1, 1, 0);
        x.settle();
        for (int mark = 0; mark < 8; mark += 1) {
            x.send(0, mark);
        }
        DUE.are(37, "the tag by the mark", i -> x.packetAt(1 + i, 2), 0, 0, 1, 1, 1, 1, NONE, NONE);
        DUE.are(37, "the policy by the mark", i -> x.packetAt(1 + i, 3), 0, 0, 1, 1, 1, 1, NONE, NONE);
        DUE.are(37, "the state by the mark", i -> x.copyAt(1 + i, 0, 0), HANDLED, HANDLED, HANDLED, HANDLED, HANDLED, HANDLED, DROPPED, DROPPED);
        x.update(0, NONE, 1 - 1);
        x.settle();
        x.send(1, 7);
        DUE.is(37, "without a slice", x.packetAt(9, 2), 2);
        // a packet goes by its tag alone, also where another list is in force
        FlowHouse y = running(2, "policy a { at 0 { out 1 } | at 1 { out 1 } | at 2 { out 1 } } policy b { out 0 }");
        y.send(0, 5);
        y.update(1, NONE, 0);
        y.settle();
        y.pass(10);
        DUE.is(37, "delivered by the old tag", y.deliveredAt(2, 0, 0), 0);
    }

    private static void pass() {
        FlowHouse x = running(2, "policy a { out 1 | at 1 { out 5 } } policy b { drop }");
        DUE.noArgument(38, "0 ticks", () -> x.pass(0));
        DUE.noArgument(38, "201 ticks", () -> x.pass(201));
        DUE.noArgument(38, "MIN ticks", () -> x.pass(Integer.MIN_VALUE));
        DUE.is(38, "no copies", x.pass(200), 0);
        DUE.is(38, "the time", x.count(0), 200);
        x.send(0, 1);
        x.send(0, 2);
        DUE.is(38, "not yet", x.pass(8), 0);
        DUE.is(38, "two are handled", x.pass(1), 2);
        DUE.is(38, "two are handled and two delivered", x.pass(1), 4);
        DUE.is(38, "nothing more", x.pass(200), 0);
        x.send(1, 3);
        DUE.is(38, "all of it", x.pass(10), 3);
        // by packets, and those of a packet by their numbers
        FlowHouse y = running(0, "policy a { at 0 { out 2 | out 1 } | at 1, 2 { out 1 } | at 3 { out 2 } }");
        y.send(0, 1);
        y.pass(1);
        y.send(0, 2);
        y.pass(3);
        DUE.are(38, "packets in order of time", i -> y.deliveredAt(1, i, 0), 0, 0);
        y.pass(2);
        DUE.are(38, "packets in order of time", i -> y.deliveredAt(1, i, 0), 0, 0, 1, 1);
        DUE.are(38, "copies in order", i -> y.deliveredAt(1, i, 1), 5, 6, 5, 6);
        DUE.are(38, "time", i -> y.deliveredAt(1, i, 3), 4, 4, 5, 5);
        FlowHouse z = running(0, "policy a { at 0 { if mark = 0 { out 2 } else { out 1 } } | at 1, 2 { out 1 } | at 3 { out 2 } }");
        z.send(0, 1);
        z.send(0, 0);
        z.send(0, 2);
        z.pass(200);
        DUE.are(38, "packets at the same time", i -> z.deliveredAt(1, i, 0), 0, 1, 2);
        // the controller looks first
        FlowHouse w = running(2, "policy a { drop } policy b { drop }");
        w.update(1, NONE, 0);
        w.settle();
        w.pass(108);
        DUE.is(38, "messages", w.count(13), 0);
        w.pass(1);
        DUE.is(38, "messages of CLEARING", w.count(13), 6);
    }

    private static void packetAt() {
        FlowHouse x = running(2, "policy a { at 0 { out 1 | out 2 | out 3 } | at 1 { drop } }");
        DUE.noIndex(39, "no packet", () -> x.packetAt(0, 0));
        x.pass(7);
        x.send(0, 77);
        DUE.are(39, "packetAt(0)", i -> x.packetAt(0, i), 0, 77, 0, 0, 4, 1, 1, 0, 7);
        x.pass(9);
        DUE.are(39, "packetAt(0)", i -> x.packetAt(0, i), 0, 77, 0, 0, 4, 0, 1, 0, 7);
        DUE.noIndex(39, "packet 1", () -> x.packetAt(1, 9));
        DUE.noIndex(39, "packet -1", () -> x.packetAt(-1, 0));
        DUE.noArgument(39, "what 9", () -> x.packetAt(0, 9));
        DUE.noArgument(39, "what -1", () -> x.packetAt(0, -1));
        x.send(0, 78);
        x.setLink(0, false);
        DUE.are(39, "with a copy cut", i -> x.packetAt(1, i), 0, 78, 0, 0, 4, 0, 1, 0, 16);
    }

    private static void copies() {
        FlowHouse x = running(2, "policy a { at 0 { if in 0 { mark := 3 ; out 1 | out 2 | kind := 1 ; out 4 } else { out 0 } } | at 1 { if in 1 { drop } else { out 0 | out 1 } } | at 2 { drop } }");
        x.pass(1);
        x.send(0, 0);
        copyIs(x, 0, 0, HANDLED, 0, NONE, NONE, 0, 0, NONE, 0, 1);
        copyIs(x, 0, 1, UNDER_WAY, 3, 0, 1, 1, 0, NONE, 1, 10);
        copyIs(x, 0, 2, DELIVERED, 0, 0, 2, NONE, NONE, 1, 0, 1);
        copyIs(x, 0, 3, LOST, 8, 0, 4, NONE, NONE, NONE, 0, 1);
        x.pass(10);
        copyIs(x, 0, 1, HANDLED, 3, 0, 1, 1, 0, NONE, 1, 10);
        copyIs(x, 0, 4, UNDER_WAY, 3, 1, 0, 0, 1, NONE, 2, 19);
        copyIs(x, 0, 5, DROPPED, 3, 1, 1, 2, 0, NONE, 2, 11);
        x.pass(8);
        copyIs(x, 0, 4, HANDLED, 3, 1, 0, 0, 1, NONE, 2, 19);
        copyIs(x, 0, 6, DELIVERED, 3, 4, 0, NONE, NONE, 0, 2, 19);
        DUE.noIndex(40, "copy 7", () -> x.copyAt(0, 7, 0));
        DUE.noIndex(40, "copy -1", () -> x.copyAt(0, -1, 9));
        DUE.noIndex(40, "packet 1", () -> x.copyAt(1, 0, 0));
        DUE.noIndex(40, "packet -1", () -> x.copyAt(-1, 0, 0));
        DUE.noArgument(40, "what 9", () -> x.copyAt(0, 0, 9));
        DUE.noArgument(40, "what -1", () -> x.copyAt(0, 0, -1));
        // a rule is taken by the port, the header and the tag
        FlowHouse y = running(2, "policy a { if in 2 { out 0 } else { if to = 3 { out 2 } } }");
        y.send(1, Due.header(0, 3, 0, 0));
        y.send(0, Due.header(0, 3, 0, 0));
        y.send(0, Due.header(0, 2, 0, 0));
        DUE.is(40, "by the port", y.copyAt(0, 1, 6), 0);
        DUE.is(40, "by the header", y.copyAt(1, 1, 6), 1);
        DUE.is(40, "no rule", y.copyAt(2, 0, 0), DROPPED);
        DUE.is(40, "one copy", y.packetAt(2, 4), 1);
        // a restarted switch has no rules; a copy that is under way stays so
        FlowHouse z = running(2, "policy a { out 1 }");
        z.send(0, 0);
        z.restart(1);
        z.pass(9);
        copyIs(z, 0, 1, DROPPED, 0, 0, 1, 1, 0, NONE, 1, 9);
    }

    private static void sameCopies() {
        FlowHouse x = running(2, "policy a { out 2 | mark := 1 ; out 2 | kind := 1 ; out 2 | mark := 1 ; out 0 | mark := 1 ; kind := 1 ; out 2 }");
        x.send(0, 0);
        x.send(0, 1);
        x.send(0, Due.header(0, 0, 1, 0));
        x.send(0, Due.header(0, 0, 1, 1));
        DUE.are(40, "copies by the header", i -> x.packetAt(i, 4), 6, 4, 4, 3);
        copyIs(x, 1, 1, DELIVERED, 1, 0, 0, NONE, NONE, 0, 0, 0);
        copyIs(x, 1, 2, DELIVERED, 1, 0, 2, NONE, NONE, 1, 0, 0);
        copyIs(x, 1, 3, DELIVERED, 9, 0, 2, NONE, NONE, 1, 0, 0);
        DUE.is(41, "it goes by the policy", x.isBy(1, 0), true);
        DUE.is(35, "counted once", x.tableAt(0, 0, 4), 4);
    }

    private static void expired() {
        FlowHouse x = running(1, "policy a { out 1 }");
        x.send(0, 9);
        x.pass(200);
        DUE.is(40, "copies", x.packetAt(0, 4), 14);
        copyIs(x, 0, 12, HANDLED, 9, 11, 1, 0, 0, NONE, 12, 30);
        copyIs(x, 0, 13, EXPIRED, 9, 12, 1, NONE, NONE, NONE, 12, 30);
        DUE.is(42, "an expired copy is not missing", x.isWhole(0), true);
        FlowHouse y = running(1, "policy a { out 1 }");
        y.send(0, 9);
        y.pass(29);
        y.setLink(0, false);
        y.pass(1);
        copyIs(y, 0, 13, CUT, 9, 12, 1, NONE, NONE, NONE, 12, 30);
        FlowHouse z = running(1, "policy a { at 0 { if in 2 { mark := 1 ; out 1 } else { if mark = 1 { mark := 2 ; out 1 } else { if mark = 2 { mark := 3 ; out 1 } else { out 2 | out 5 } } } } | at 1, 2, 3 { out 1 } }");
        z.send(0, 0);
        z.pass(200);
        copyIs(z, 0, 13, DELIVERED, 3, 12, 2, NONE, NONE, 0, 12, 30);
        copyIs(z, 0, 14, LOST, 3, 12, 5, NONE, NONE, NONE, 12, 30);
    }

    /** Eight marks at switch 0, and eight of each at switch 1: 73 copies, of which 64 are made. */
    private static final String FLOOD = "policy a { (mark := 0 | mark := 1 | mark := 2 | mark := 3 | mark := 4 | mark := 5 | mark := 6 | LAST);"
            + "if in 0 { out 2 } else { out 1 } }";

    private static void cutShort() {
        FlowHouse x = running(1, FLOOD.replace("LAST", "mark := 7"));
        x.send(0, 0);
        DUE.is(39, "not yet", x.packetAt(0, 7), 0);
        DUE.is(38, "handled and delivered", x.pass(1), 8 + 55);
        DUE.are(39, "packetAt(0)", i -> x.packetAt(0, i), 0, 0, 0, 0, 64, 0, 55, 1, 0);
        DUE.is(40, "a copy that made less", x.copyAt(0, 7, 0), HANDLED);
        DUE.is(40, "a copy that made none", x.copyAt(0, 8, 0), HANDLED);
        copyIs(x, 0, 63, DELIVERED, 6, 7, 2, NONE, NONE, 1, 1, 1);
        DUE.is(41, "it goes by the policy", x.isBy(0, 0), true);
        DUE.is(42, "something is missing", x.isWhole(0), false);
        FlowHouse y = running(1, FLOOD.replace("LAST", "if in 0 { mark := 7 }"));
        y.send(0, 0);
        y.pass(1);
        DUE.are(39, "just 64", i -> y.packetAt(0, i), 0, 0, 0, 0, 64, 0, 56, 0, 0);
        DUE.is(42, "all is there", y.isWhole(0), true);
        FlowHouse w = running(1, FLOOD.replace("LAST", "if in 2 { mark := 7 }"));
        w.send(0, 0);
        w.pass(1);
        DUE.are(39, "65 would be made", i -> w.packetAt(0, i), 0, 0, 0, 0, 64, 0, 55, 1, 0);
        // beyond 64, what would be the same as a copy ahead is none that is not made
        FlowHouse z = running(1, "policy a { (mark := 0 | mark := 1 | mark := 2 | mark := 3 | mark := 4 | mark := 5 | mark := 6 | if in 0 { mark := 7 });"
                + "if in 0 { out 2 } else { out 1 } }");
        z.send(0, 3);
        z.pass(1);
        DUE.is(39, "not cut short", z.packetAt(0, 7), 0);
    }

    private static void isBy() {
        FlowHouse x = running(2, "policy a { at 0 { if mark = 0 { out 1 | out 2 } else { drop } } | at 1 { out 1 } | at 2 { out 1 } }"
                + "policy b { at 0 { out 2 | mark := 0 ; out 1 } | at 1 { out 1 } | at 2 { out 1 } } policy c { at 0 { out 1 } } policy d { at 0 { out 1 | out 2 | out 3 } } policy e { at 0 { out 1 | out 2 } | at 1 { out 0 } }");
        x.send(0, 0);
        x.send(0, 1);
        DUE.is(41, "its own policy", x.isBy(0, 0), true);
        DUE.is(41, "another one that makes the same", x.isBy(0, 1), true);
        DUE.is(41, "one that makes less", x.isBy(0, 2), false);
        DUE.is(41, "one that makes more", x.isBy(0, 3), false);
        DUE.is(41, "one that makes the same so far", x.isBy(0, 4), true);
        x.pass(9);
        DUE.is(41, "one that makes another port", x.isBy(0, 4), false);
        DUE.is(41, "no copy was handled", x.isBy(1, 3), true);
        x.pass(9);
        DUE.is(41, "its own policy", x.isBy(0, 0), true);
        DUE.noIndex(41, "packet 2", () -> x.isBy(2, 0));
        DUE.noIndex(41, "packet -1", () -> x.isBy(-1, 0));
        DUE.noIndex(41, "policy 5", () -> x.isBy(0, 5));
        DUE.noIndex(41, "policy -1", () -> x.isBy(0, -1));
        FlowHouse y = running(2, "policy a { mark := 2 ; out 2 } policy b { out 2 } policy c { mark := 2 ; out 0 } policy d { drop }");
        y.send(0, 0);
        y.send(0, 2);
        DUE.is(41, "another header", y.isBy(0, 1), false);
        DUE.is(41, "the same header", y.isBy(1, 1), true);
        DUE.is(41, "another port", y.isBy(1, 2), false);
        DUE.is(41, "no action", y.isBy(1, 3), false);
        // an update in mode 1 changes the rules under a packet
        FlowHouse z = running(2, "policy a { out 1 } policy b { at 0 { out 0 } | at 1 { out 0 | out 1 } | at 2 { out 1 } }");
        z.send(0, 0);
        z.update(1, NONE, 1);
        z.settle();
        z.pass(10);
        DUE.is(41, "neither by the one", z.isBy(0, 0), false);
        DUE.is(41, "nor by the other", z.isBy(0, 1), false);
    }

    private static void isWhole() {
        FlowHouse x = running(2, "policy a { at 0 { out 1 } | at 1 { out 1 } | at 2 { if mark = 0 { drop } else { out 1 } } }");
        DUE.noIndex(42, "packet 0", () -> x.isWhole(0));
        DUE.noIndex(42, "packet -1", () -> x.isWhole(-1));
        x.send(0, 0);
        x.send(0, 1);
        x.send(0, 1);
        DUE.is(42, "so far", x.isWhole(0), true);
        x.pass(9);
        x.restart(2);
        x.pass(1);
        DUE.is(42, "dropped, as the policy says", x.isWhole(0), true);
        DUE.is(42, "dropped, though the policy has an action", x.isWhole(1), false);
        x.restart(0);
        x.send(0, 0);
        DUE.is(42, "no policy", x.isWhole(3), false);
        FlowHouse y = running(2, "policy a { out 1 }");
        y.send(0, 0);
        y.setLink(0, false);
        DUE.is(42, "a copy was cut", y.isWhole(0), false);
        FlowHouse z = running(2, "policy a { out 5 } policy b { out 4 }");
        z.send(0, 0);
        DUE.is(42, "a lost copy is not missing", z.isWhole(0), true);
        FlowHouse w = running(2, "policy a { out 1 } policy b { at 0 { out 0 } | at 1 { out 0 | out 1 } | at 2 { out 1 } }");
        w.send(0, 0);
        w.update(1, NONE, 1);
        w.settle();
        w.pass(10);
        DUE.is(42, "it does not go by its policy", w.isWhole(0), false);
    }

    private static void deliveredAt() {
        FlowHouse x = running(2, "policy a { at 0 { if in 0 { out 2 | mark := 6 ; out 2 } else { out 1 } } | at 1, 2 { out 1 } }");
        DUE.noElement(43, "nothing", () -> x.deliveredAt(1, 0, 0));
        x.pass(4);
        x.send(0, 5);
        x.send(1, 0);
        x.send(0, 6);
        DUE.are(43, "the first one", i -> x.deliveredAt(1, 0, i), 0, 1, 5, 4);
        DUE.are(43, "the second one", i -> x.deliveredAt(1, 1, i), 0, 2, 6, 4);
        DUE.are(43, "the third one", i -> x.deliveredAt(1, 2, i), 2, 1, 6, 4);
        DUE.noElement(43, "no fourth one", () -> x.deliveredAt(1, 3, 0));
        DUE.noElement(43, "index -1", () -> x.deliveredAt(1, -1, 0));
        DUE.noElement(43, "index MIN", () -> x.deliveredAt(1, Integer.MIN_VALUE, 0));
        DUE.noElement(43, "not yet at host 2", () -> x.deliveredAt(2, 0, 0));
        x.pass(10);
        DUE.are(43, "at host 2", i -> x.deliveredAt(2, 0, i), 1, 3, 0, 14);
        DUE.noIndex(43, "host 3", () -> x.deliveredAt(3, 0, 0));
        DUE.noIndex(43, "host -1", () -> x.deliveredAt(-1, 0, 9));
        DUE.noArgument(43, "what 4", () -> x.deliveredAt(1, 9, 4));
        DUE.noArgument(43, "what -1", () -> x.deliveredAt(1, 0, -1));
    }
}
