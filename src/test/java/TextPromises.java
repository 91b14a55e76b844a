/** Promises 9 to 14: the text, its errors, and load. */
public final class TextPromises {
    private static final Due DUE = new Due();
    private static final int NONE = FlowHouse.NONE;

    public static void main(String[] args) {
        type();
        piece();
        clearText();
        bytesAndTokens();
        tokensThatCannotStand();
        depth();
        names();
        numbers();
        widthAndRules();
        firstError();
        load();
        DUE.end("TextPromises");
    }

    private static void type() {
        FlowHouse x = new FlowHouse();
        DUE.is(9, "no bytes", x.type(0, 0, 0, 0, 0, 0), 0);
        DUE.is(9, "bytes in order", x.type(0x736c696365206100L, 0x7b0000616e790000L, 0, 0x7dL, 0, 0), 12);
        DUE.is(9, "the text", x.errorKind(), 0);
        DUE.is(9, "a slice", x.load(), 0);
        DUE.is(9, "a slice", x.count(5), 1);
        DUE.is(9, "bytes from 128 on", x.type(-1L, -1L, -1L, -1L, -1L, -1L), 48);
        DUE.is(9, "count(14)", x.count(14), 48);
        for (int i = 1; i < 52; i++) {
            x.type(-1L, -1L, -1L, -1L, -1L, -1L);
        }
        DUE.is(9, "near the end", x.count(14), 2496);
        DUE.noState(9, "5 bytes more", () -> x.type(0x0101010101L, 0, 0, 0, 0, 0));
        DUE.noState(9, "4 and 1 bytes more", () -> x.type(0x01010101L, 0, 0, 0, 0, 1));
        DUE.is(9, "nothing was put", x.count(14), 2496);
        DUE.is(9, "up to 2500", x.type(0, 0x0100010001000100L, 0, 0, 0, 0), 2500);
        DUE.is(9, "no bytes at the full text", x.type(0, 0, 0, 0, 0, 0), 2500);
        DUE.noState(9, "one more", () -> x.type(0, 0, 0, 0, 0, 1));
        for (int i = 0; i < 6; i++) {
            long[] six = new long[6];
            six[i] = 0x0100000000000000L;
            DUE.noState(9, "one more in number " + i, () -> x.type(six[0], six[1], six[2], six[3], six[4], six[5]));
        }
    }

    private static void piece() {
        for (int i = 0; i < 6; i++) {
            FlowHouse x = new FlowHouse();
            DUE.is(10, "piece(" + i + ")", x.piece(i), Oracle.PIECES[i].length() + 1);
            DUE.is(10, "its errors", x.errorKind(), 0);
            DUE.is(10, "its policies", x.load(), i == 3 ? 0 : 1);
            DUE.is(10, "its slices", x.count(5), i == 3 ? 2 : 0);
            // its names are taken, so that the second one of each sort is an error at this place
            String[] names = {"up", "low", "twice", "few", "right", "home"};
            Due.type(x, (i == 3 ? "slice " : "policy ") + names[i]);
            DUE.is(10, "its name", x.errorKind(), 4);
        }
        FlowHouse y = new FlowHouse();
        y.piece(3);
        Due.type(y, "slice odd");
        DUE.is(10, "both names of the slices", y.errorKind(), 4);
        FlowHouse x = new FlowHouse();
        DUE.noArgument(10, "piece(-1)", () -> x.piece(-1));
        DUE.noArgument(10, "piece(6)", () -> x.piece(6));
        int length = Oracle.PIECES[0].length() + 1;
        for (int i = 0; i + length <= 2500; i += length) {
            x.piece(0);
        }
        int size = x.count(14);
        DUE.noState(10, "a piece too much", () -> x.piece(0));
        DUE.noArgument(10, "the argument goes ahead", () -> x.piece(6));
        DUE.is(10, "nothing was put", x.count(14), size);
        Due.type(x, " ".repeat(2500 - size - 75));
        DUE.noState(10, "a piece that fits but for its byte 10", () -> x.piece(4));
        DUE.is(10, "the length of that piece", Oracle.PIECES[4].length(), 75);
        FlowHouse z = new FlowHouse();
        Due.type(z, " ".repeat(2500 - 76));
        DUE.is(10, "a piece that just fits", z.piece(4), 2500);
        z.load();
        Due.type(z, "policy ");
        z.piece(5);
        DUE.is(10, "the piece is behind the text", z.errorPlace(), 7);
        FlowHouse w = new FlowHouse();
        w.piece(4);
        Due.type(w, "x");
        DUE.is(10, "a byte 10 is behind the piece", w.errorPlace(), 76);
    }

    private static void clearText() {
        FlowHouse x = new FlowHouse();
        DUE.is(11, "no text", x.clearText(), 0);
        Due.type(x, "policy a {");
        DUE.is(11, "its length", x.clearText(), 10);
        DUE.is(11, "count(14)", x.count(14), 0);
        DUE.is(11, "no error", x.errorKind(), 0);
        Due.type(x, "slice a {any}");
        x.load();
        x.clearText();
        DUE.is(11, "the store stays", x.count(5), 1);
        // nothing of a text before is read
        FlowHouse y = new FlowHouse();
        errorBehind(y, "slice a{to=15}  ", 0, NONE);
        errorBehind(y, "slice a{to=1", 2, 12);
        errorBehind(y, "slice a{to=1 .. 7}", 0, NONE);
        errorBehind(y, "slice a{to=1 .", 1, 13);
        errorBehind(y, "policy a{to:=1}", 0, NONE);
        errorBehind(y, "policy a{to:", 1, 11);
        errorBehind(y, "slice abcd{any}", 0, NONE);
        errorBehind(y, "slice a", 2, 7);
        errorBehind(y, "slice a          ", 2, 17);
        errorBehind(y, "slice a ", 2, 8);
    }

    /** The text has its first error, of this kind, at this place; 0 and NONE without one. */
    private static void error(String text, int kind, int place) {
        errorBehind(new FlowHouse(), text, kind, place);
    }

    private static void errorBehind(FlowHouse x, String text, int kind, int place) {
        x.clearText();
        Due.type(x, text);
        String told = text.length() < 100 ? text : text.substring(0, 90) + "..";
        DUE.is(12, "errorKind() of: " + told, x.errorKind(), kind);
        DUE.is(13, "errorPlace() of: " + told, x.errorPlace(), place);
        DUE.is(12, "errorKind() again", x.errorKind(), kind);
        if (kind != 0) {
            DUE.noState(14, "load() of: " + told, x::load);
            DUE.is(14, "the text stays", x.count(14), text.length());
        }
    }

    private static void fine(String text) {
        error(text, 0, FlowHouse.NONE);
    }

    private static void bytesAndTokens() {
        fine("");
        fine(" \n ");
        fine("policy a{out 1}slice b{any}");
        fine("policy a{out1;to:=3}slice b{from=1..2and kind=0}");
        fine("policy a\n{\nout\n1\n}\n");
        fine("policy a{out 0001}");
        fine("policy az{out 1}slice zz{any}");
        error("A", 1, 0);
        error(" \t", 1, 1);
        error("policy a{out 1\r}", 1, 14);
        error("policy a { out 1 } \u00ff", 1, 19);
        error("\u0001", 1, 0);
        error("policy a{to : = 1}", 1, 12);
        error("policy a{to :", 1, 12);
        error("slice a{to = 1 . 2}", 1, 15);
        error("slice a{to = 1.", 1, 14);
        error("slice a{to = 1 ...2}", 1, 17);
        error("slice a{to = 1 . . 2}", 1, 15);
        error("slice a{to == 1}", 2, 12);
        error("policy a{to ::= 1}", 1, 12);
        error("policy a{out 1000}", 1, 13);
        error("policy a{out 999}", 6, 13);
        error("policy a{out 99999999999999999999999999999999}", 1, 13);
        error("policy a{out 4294967296}", 1, 13);
        error("1000", 1, 0);
        error("999", 2, 0);
        error("policy a{drop 1000 }", 1, 14);
        error("policy-a", 1, 6);
    }

    private static void tokensThatCannotStand() {
        error("drop", 2, 0);
        error("policy", 2, 6);
        error("policy  ", 2, 8);
        error("policy a", 2, 8);
        error("policy a {\n", 2, 11);
        error("policy a { }", 2, 11);
        error("policy a { out 1", 2, 16);
        error("policy a { out 1 } }", 2, 19);
        error("policy a { out }", 2, 15);
        error("policy a { out 1 out 2 }", 2, 17);
        error("policy a { out 1 ; }", 2, 19);
        error("policy a { out 1 | }", 2, 19);
        error("policy a { | out 1 }", 2, 11);
        error("policy a { to = 1 }", 2, 14);
        error("policy a { to := }", 2, 17);
        error("policy a { if any out 1 }", 2, 18);
        error("policy a { if { out 1 } }", 2, 14);
        error("policy a { if any { out 1 } else out 2 }", 2, 33);
        error("policy a { if any { out 1 } else { out 2 } else { out 3 } }", 2, 43);
        error("policy a { else { out 1 } }", 2, 11);
        error("policy a { at { out 1 } }", 2, 14);
        error("policy a { at 1, { out 1 } }", 2, 17);
        error("policy a { at 1 2 { out 1 } }", 2, 16);
        error("policy a { ( out 1 }", 2, 19);
        error("policy a { () }", 2, 12);
        error("policy a { any }", 2, 11);
        error("policy a { to := 1 .. 2 }", 2, 19);
        error("slice a { }", 2, 10);
        error("slice a { drop }", 2, 10);
        error("slice a { in 1 }", 2, 10);
        error("slice a { not in 1 }", 2, 14);
        error("policy b { if in 1 { out 1 } } slice a { any and in 1 }", 2, 49);
        fine("slice a { any } policy b { if in 1 { out 1 } }");
        error("slice a { to = 1 .. }", 2, 20);
        error("slice a { to := 1 }", 2, 13);
        error("slice a { any any }", 2, 14);
        error("slice a { any or }", 2, 17);
        error("slice a { not }", 2, 14);
        error("slice a { (any }", 2, 15);
        error("slice a { any and or any }", 2, 18);
        error("slice a { any ; any }", 2, 14);
        for (String word : new String[] {"policy", "slice", "drop", "pass", "out", "if", "else", "at", "or", "and", "not",
            "any", "in", "from", "to", "kind", "mark"}) {
            error("policy " + word + " { out 1 }", 2, 7);
            error("slice " + word + " { any }", 2, 6);
        }
        error("policy abcdefghi { out 1 }", 2, 7);
        fine("policy abcdefgh { out 1 }");
        fine("policy outs { out 1 } slice ifs { any }");
        error("policy { out 1 }", 2, 7);
        error("policy 7 { out 1 }", 2, 7);
        error("policy a { outs 1 }", 2, 11);
        error("policy a b", 2, 9);
        fine("policy a { (out 1 | drop); pass | at 0, 7, 7 { if not any or any and any { mark := 7 } else { pass } } }");
    }

    private static void depth() {
        fine("policy a {" + "(".repeat(19) + "drop" + ")".repeat(19) + "}");
        error("policy a {" + "(".repeat(20) + "drop" + ")".repeat(20) + "}", 3, 29);
        fine("slice a {" + "not ".repeat(19) + "any}");
        error("slice a {" + "not ".repeat(20) + "any}", 3, 9 + 19 * 4);
        fine("slice a {" + "not (".repeat(9) + "not any" + ")".repeat(9) + "}");
        error("slice a {" + "not (".repeat(9) + "not (any)" + ")".repeat(9) + "}", 3, 9 + 45 + 4);
        fine("slice a {" + "not ".repeat(19) + "any and " + "not ".repeat(19) + "any or " + "not ".repeat(19) + "any}");
        fine("slice a {" + "(".repeat(19) + "any" + ")".repeat(19) + " and " + "(".repeat(19) + "any" + ")".repeat(19) + "}");
        fine("policy a {" + "if any {".repeat(19) + "drop" + "}".repeat(20));
        error("policy a {" + "if any {".repeat(20) + "drop" + "}".repeat(21), 3, 10 + 19 * 8 + 7);
        fine("policy a {" + "if any { drop } else {".repeat(19) + "drop" + "}".repeat(20));
        error("policy a {" + "if any { drop } else {".repeat(20), 3, 10 + 19 * 22 + 7);
        fine("policy a {" + "at 1 {".repeat(19) + "drop" + "}".repeat(20));
        error("policy a {" + "at 1 {".repeat(20) + "drop", 3, 10 + 19 * 6 + 5);
        error("policy a {" + "(".repeat(19) + "if any { drop }" + ")".repeat(19) + "}", 3, 29 + 7);
        error("policy a {" + "(".repeat(19) + "if any drop" + ")".repeat(19) + "}", 2, 29 + 7);
        error("policy a {" + "(".repeat(18) + "if any { drop } else { (", 3, 28 + 23);
        error("policy a {" + "(".repeat(19) + "if not any { drop }", 3, 29 + 3);
        error("policy a {" + "(".repeat(18) + "if not any { if any {", 3, 28 + 20);
        fine("policy a {" + "(".repeat(18) + "if not any { drop }" + ")".repeat(18) + "}");
    }

    private static void names() {
        error("policy a { drop } policy a { drop }", 4, 25);
        error("slice a { any } slice b { any } slice a { any }", 4, 38);
        fine("policy a { drop } slice a { any } policy b { drop } slice b { any }");
        FlowHouse x = new FlowHouse();
        Due.type(x, "policy a { drop } slice b { any }");
        x.load();
        errorBehind(x, "policy a", 4, 7);
        errorBehind(x, "slice b", 4, 6);
        errorBehind(x, "slice a { any } policy b { drop }", 0, FlowHouse.NONE);
        errorBehind(x, "policy ab { drop } policy ba { drop } policy abcdefgh { drop } policy abcdefg { drop }", 0, FlowHouse.NONE);
        String six = "";
        for (char c = 'a'; c < 'g'; c++) {
            six += "policy " + c + "{drop} slice " + c + "{any}";
        }
        fine(six);
        error(six + "policy x", 5, six.length());
        error(six + "slice x", 5, six.length());
        error(six + "policy", 5, six.length());
        error(six + "drop", 2, six.length());
        errorBehind(x, six.replace("a{", "x{").replace("b{", "y{"), 5, (six.length() / 6) * 5);
        errorBehind(x, "policy p{drop} policy q{drop} policy r{drop} policy s{drop} policy t{drop}", 0, FlowHouse.NONE);
        x.load();
        errorBehind(x, "policy a", 5, 0);
        errorBehind(x, "slice c {any}", 0, FlowHouse.NONE);
    }

    private static void numbers() {
        fine("policy a { from := 15 ; to := 15 ; kind := 7 ; mark := 7 ; out 5 | at 7 { drop } | if in 5 { out 0 } }");
        error("policy a { from := 16 }", 6, 19);
        error("policy a { to := 16 }", 6, 17);
        error("policy a { kind := 8 }", 6, 19);
        error("policy a { mark := 8 }", 6, 19);
        error("policy a { out 6 }", 6, 15);
        error("policy a { at 8 { out 1 } }", 6, 14);
        error("policy a { at 7, 8 { out 1 } }", 6, 17);
        error("policy a { if in 6 { out 1 } }", 6, 17);
        error("slice a { from = 16 }", 6, 17);
        error("slice a { to = 16 }", 6, 15);
        error("slice a { kind = 8 }", 6, 17);
        error("slice a { mark = 8 }", 6, 17);
        fine("slice a { from = 0 .. 15 and to = 15 .. 15 and kind = 0 .. 7 and mark = 7 .. 7 }");
        error("slice a { from = 3 .. 2 }", 6, 22);
        error("slice a { from = 3 .. 16 }", 6, 22);
        error("slice a { mark = 0 .. 8 }", 6, 22);
        error("slice a { mark = 9 .. 8 }", 6, 17);
        error("policy a { 5 := 5 }", 2, 11);
    }

    private static void widthAndRules() {
        fine("policy a { pass | pass | pass | pass | pass | pass | pass | pass }");
        error("policy a { pass | pass | pass | pass | pass | pass | pass | pass | pass }", 7, 72);
        fine("policy a { (pass | pass) ; (pass | pass) ; (pass | pass) }");
        error("policy a { (pass | pass) ; (pass | pass) ; (pass | pass | pass) }", 7, 64);
        error("policy a { (drop|drop|drop) ; (drop|drop|drop) }", 7, 47);
        fine("policy a { if any { (pass | pass) ; (pass | pass) } else { pass } ; (pass | pass) }");
        error("policy a { if any { pass } else { (pass | pass) ; (pass | pass) } ; (pass | pass | pass) }", 7, 89);
        error("policy a { at 1 { pass | pass | pass } ; if any { pass | pass | pass } }", 7, 71);
        fine("policy a { at 1 { pass | pass | pass } | if any { pass | pass | pass } | drop ; drop | out 1 }");
        error("policy a { " + "(pass|pass);".repeat(60) + "pass }", 7, 11 + 12 * 60 + 5);
        error("policy a { pass | pass | pass | pass | pass | pass | pass | pass | pass", 2, 71);
        FlowHouse x = new FlowHouse();
        Due.type(x, "policy a { " + SIXTY + " }");
        x.load();
        DUE.is(12, "the rules of SIXTY", x.rules(0, 0), 60);
        fine("policy a { if in 0 { " + SIXTY + " } }");
        String more = "policy a { if in 0 { " + SIXTY + " } else { if in 1 { out 3 } } }";
        error(more, 8, more.length() - 1);
        String last = "policy a { at 7 { " + more.substring(11, more.length() - 2) + " } | at 0 { out 1 } }";
        error(last, 8, last.length() - 1);
        String wide = "policy a { " + more.substring(11, more.length() - 2) + " | " + "pass | ".repeat(7) + "pass }";
        error(wide, 7, wide.length() - 1);
        String dropped = "policy a { (" + more.substring(11, more.length() - 2) + "); drop }";
        fine(dropped);
    }

    /** 4 * 8 rules of odd kinds, 4 * 7 of even ones: only the marks 0 and 1 of these have a rule together. */
    private static final String SIXTY = "if kind = 1 or kind = 2 or kind = 4 or kind = 7 { "
            + "if mark = 1 or mark = 2 or mark = 4 or mark = 7 { out 1 } else { out 2 } } else { "
            + "if mark = 2 or mark = 4 or mark = 7 { out 1 } else { out 2 } }";

    private static void firstError() {
        error("policy a { out 6 } A", 6, 15);
        error("A policy a { out 6 }", 1, 0);
        error("policy a { drop } policy a { out 9 }", 4, 25);
        error("policy a { pass | pass | pass | pass | pass | pass | pass | pass | pass } A", 7, 72);
        error("policy a { out 1 ) A", 2, 17);
        FlowHouse x = new FlowHouse();
        Due.type(x, "policy a { out");
        DUE.is(12, "an end", x.errorKind(), 2);
        DUE.is(13, "its place", x.errorPlace(), 14);
        Due.type(x, " 7");
        DUE.is(12, "behind more text", x.errorKind(), 6);
        DUE.is(13, "its place", x.errorPlace(), 15);
        x.clearText();
        DUE.is(12, "behind clearText", x.errorKind(), 0);
        DUE.is(13, "behind clearText", x.errorPlace(), FlowHouse.NONE);
    }

    private static void load() {
        FlowHouse x = new FlowHouse();
        DUE.is(14, "no text", x.load(), 0);
        Due.type(x, "slice s { to = 3 } policy a { out 1 } policy b { out 2 } slice t { not to = 3 }");
        DUE.is(14, "load()", x.load(), 2);
        DUE.is(14, "the text is empty", x.count(14), 0);
        DUE.is(14, "count(4)", x.count(4), 2);
        DUE.is(14, "count(5)", x.count(5), 2);
        DUE.is(14, "policy 0", x.actionAt(0, 0, 0, 0, 0), 1);
        DUE.is(14, "policy 1", x.actionAt(1, 0, 0, 0, 0), 2);
        DUE.is(14, "slice 0", x.has(0, Due.header(0, 3, 0, 0)), true);
        DUE.is(14, "slice 1", x.has(1, Due.header(0, 3, 0, 0)), false);
        Due.type(x, "policy c { out 3 } policy d { out 9 }");
        DUE.noState(14, "a text with an error", x::load);
        DUE.is(14, "nothing was put into the store", x.count(4), 2);
        DUE.noIndex(14, "policy 2", () -> x.rules(2, 0));
        x.clearText();
        Due.type(x, "policy e { out 4 }");
        DUE.is(14, "a second text", x.load(), 3);
        DUE.is(14, "policy 2", x.actionAt(2, 0, 0, 0, 0), 4);
        DUE.is(14, "policy 0 stays", x.actionAt(0, 0, 0, 0, 0), 1);
        DUE.is(14, "slice 1 stays", x.has(1, Due.header(0, 4, 0, 0)), true);
    }
}
