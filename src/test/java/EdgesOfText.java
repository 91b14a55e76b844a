/** The boundaries that section 9 and the promises 9 to 14 name: the text, its tokens and its errors. */
public final class EdgesOfText {
    private static final int NONE = -1;
    private static final int MAX = Integer.MAX_VALUE, MIN = Integer.MIN_VALUE;
    private static final Class<? extends RuntimeException> ARGUMENT = Run.ARGUMENT, STATE = Run.STATE;
    private static final String BLANKS = " ".repeat(2500);
    /** 4 * 8 rules of the kinds with an odd number of bits, 4 * 7 of the others. */
    private static final String SIXTY = "if kind = 1 or kind = 2 or kind = 4 or kind = 7 { "
            + "if mark = 1 or mark = 2 or mark = 4 or mark = 7 { out 1 } else { out 2 } } else { "
            + "if mark = 2 or mark = 4 or mark = 7 { out 1 } else { out 2 } }";
    private static final String SIXTY_ONE = "if in 0 { " + SIXTY + " } else { if in 1 { out 3 } }";
    private static final String EIGHT = "pass | pass | pass | pass | pass | pass | pass | pass";
    private static final String[] PIECES = {
        "policy up { at 0 { if in 0 { if to = 1 .. 2 { out 1 } else { out 2 } } else { out 0 } } | at 1, 2 { if in 0 { if to = 1 { out 1 } else { out 2 } } else { out 0 } } | at 3 { if in 2 { if to = 3 { out 1 } else { out 0 } } else { out 2 } } }",
        "policy low { at 0 { if in 0 { if to = 2 { out 1 } else { out 2 } } else { out 0 } } | at 1, 2 { if in 0 { if to = 1 { out 1 } else { out 2 } } else { out 0 } } | at 3 { if in 2 { if to = 2 { out 0 } else { out 1 } } else { mark := 7; out 2 } } }",
        "policy twice { at 0 { if in 0 { out 1 | kind := 1; out 2 } else { out 0 } } | at 1, 2 { if kind = 1 .. 3 and not in 1 { out 1; mark := 3 } else { if in 1 { out 0 } else { out 1 } } } | at 3 { if in 2 { out 0 } else { out 2 } } }",
        "slice few { kind = 0 .. 3 and not from = 1 } slice odd { mark = 1 or mark = 3 or (mark = 5 .. 7 and not mark = 6) }",
        "policy right { at 0, 1, 2, 3 { out 1 | if to = 2 and mark = 0 { out 2 } } }",
        "policy home { at 0 { if to = 0 { out 2 } else { out 1 } } | at 1 { if to = 1 { out 2 } else { out 1 } } | at 2 { if to = 2 { out 2 } else { out 1 } } | at 3 { if to = 3 { out 2 } else { out 1 } } }"};

    public static void main(String[] args) {
        bytesOfANumber();
        textOf2500();
        pieces();
        piecesThatJustFit();
        clearText();
        eachByteAlone();
        bytesOfLongTokens();
        tokensAreAsLongAsPossible();
        numbersUpTo999();
        endOfTheText();
        endOfAFullText();
        whatCanStand();
        twentyDeep();
        notWhoseFactHasEnded();
        namesOfOneToEight();
        namesThatAreTaken();
        sixOfEachSort();
        sixInTheStore();
        numbersForWhatTheyTell();
        numbersBehindDots();
        widthOfEight();
        widthOfParts();
        hugeWidths();
        sixtyRules();
        rulesOfATextBefore();
        leastKindOfAToken();
        firstError();
        load();
        Run.end("EdgesOfText");
    }

    /** The text has its first error, of this kind, at this place; it is not loaded, and stays. */
    private static void error(String text, int kind, int place) {
        Run x = new Run(12, "the error of: " + (text.length() < 120 ? text : text.substring(0, 120) + ".."));
        errorIn(x, text, kind, place);
    }

    private static void errorIn(Run x, String text, int kind, int place) {
        x.call("clearText").text(text).is(text.length(), "count", 14).is(kind, "errorKind").is(place, "errorPlace");
        if (kind != 0) {
            x.refuses(STATE, "load").is(text.length(), "count", 14);
        }
        x.is(kind, "errorKind").is(place, "errorPlace");
    }

    private static void fine(String text) {
        error(text, 0, NONE);
    }

    // ---- promise 9

    private static void bytesOfANumber() {
        Run x = new Run(9, "of each number the highest byte first, without those that are 0");
        x.is(0, "type", 0, 0, 0, 0, 0, 0).is(0, "errorKind");
        x.is(8, "type", 0x736c696365206162L, 0, 0, 0, 0, 0).is(2, "errorKind").is(8, "errorPlace");
        x.is(10, "type", 0, 0, 0x007b000000000000L, 0, 0, 0x61L).is(2, "errorKind").is(9, "errorPlace");
        x.is(13, "type", 0x6e, 0x7900000000000000L, 0x007d00, 0, 0, 0).is(0, "errorKind");
        x.is(0, "load").is(1, "count", 5).is(0, "count", 14);
        Run y = new Run(9, "all bytes of six numbers").is(48, "type", -1, -1, -1, -1, -1, -1).is(1, "errorKind");
        y.is(96, "type", Long.MAX_VALUE, Long.MAX_VALUE, Long.MAX_VALUE, Long.MAX_VALUE, Long.MAX_VALUE,
                Long.MAX_VALUE);
        y.is(97, "type", Long.MIN_VALUE, 0, 0, 0, 0, 0).is(98, "type", 0, 0, 0, 0, 0, 1);
        for (int i = 0; i < 6; i++) {
            for (int shift = 0; shift < 64; shift += 8) {
                long[] six = new long[6];
                six[i] = 0x20L << shift;
                six[(i + 1) % 6] = (long) 'a' << shift;
                Run z = new Run(9, "one number after the other").is(2, "type", six).is(2, "errorKind");
                z.is(i == 5 ? 0 : 1, "errorPlace");
            }
        }
    }

    private static void textOf2500() {
        Run x = new Run(9, "the text has at most 2500 bytes").text(BLANKS.substring(0, 2496));
        x.refuses(STATE, "type", 0x2020202020L, 0, 0, 0, 0, 0).refuses(STATE, "type", -1, -1, -1, -1, -1, -1);
        x.refuses(STATE, "type", 0x20, 0x20, 0x20, 0x20, 0x20, 0)
                .refuses(STATE, "type", 0, 0x20, 0x20, 0x20, 0x20, 0x20);
        x.refuses(STATE, "type", 0x2000000000000000L, 0, 0x2020, 0, 0x20, 0x20000000L);
        x.is(2496, "count", 14).is(2499, "type", 0x20, 0, 0x20, 0, 0, 0x20);
        x.refuses(STATE, "type", 0x20, 0x20, 0, 0, 0, 0).refuses(STATE, "type", 0, 0, 0, 0, 0x20, 0x20);
        x.is(2500, "type", 0, 0, 0, 0x2000000000000000L, 0, 0).is(2500, "type", 0, 0, 0, 0, 0, 0);
        for (int i = 0; i < 6; i++) {
            long[] six = new long[6];
            six[i] = 1;
            x.refuses(STATE, "type", six);
        }
        x.is(2500, "count", 14).is(0, "errorKind").is(0, "load").is(1, "type", 0, 0, 1, 0, 0, 0);
    }

    // ---- promise 10

    private static void pieces() {
        Run x = new Run(10, "which is 0 to 5");
        x.refuses(ARGUMENT, "piece", -1).refuses(ARGUMENT, "piece", 6).refuses(ARGUMENT, "piece", MAX);
        x.refuses(ARGUMENT, "piece", MIN).is(0, "count", 14);
        for (int i = 0; i < 6; i++) {
            String piece = PIECES[i] + "\n";
            Run y = new Run(10, "the piece " + i).is(piece.length(), "piece", i).is(0, "errorKind")
                    .is(i == 3 ? 0 : 1, "load");
            Run z = new Run(10, "the piece " + i).text(piece).is(i == 3 ? 0 : 1, "load");
            y.sameAs(z);
        }
    }

    private static void piecesThatJustFit() {
        for (int i = 0; i < 6; i++) {
            int length = PIECES[i].length() + 1;
            Run x = new Run(10, "a piece, and a byte 10, up to 2500").text(BLANKS.substring(length));
            x.is(2500, "piece", i).is(0, "errorKind");
            x.refuses(STATE, "piece", i).refuses(ARGUMENT, "piece", 6).refuses(ARGUMENT, "piece", -1);
            Run y = new Run(10, "a piece that would end at 2501").text(BLANKS.substring(length - 1));
            y.refuses(STATE, "piece", i).refuses(ARGUMENT, "piece", 6).is(2501 - length, "count", 14);
            Run z = new Run(10, "a piece whose byte 10 would be the first too much").text(BLANKS.substring(length - 2));
            z.refuses(STATE, "piece", i).is(2502 - length, "count", 14).is(0, "errorKind");
        }
        Run x = new Run(10, "behind the text").text("policy");
        x.is(6 + 76, "piece", 4).is(2, "errorKind").is(0, "errorPlace");
        Run y = new Run(10, "the byte 10 parts it from what follows").call("piece", 4).text("policy b { drop }");
        y.is(0, "errorKind").is(2, "load");
    }

    // ---- promise 11

    private static void clearText() {
        Run x = new Run(11, "the length before, 0 of an empty text").is(0, "clearText").is(0, "clearText");
        x.text("a").is(1, "clearText").is(0, "clearText").text(BLANKS).is(2500, "clearText").is(0, "count", 14);
        x.is(6, "type", 0x706f6c696379L, 0, 0, 0, 0, 0).is(2, "errorKind").is(6, "clearText").is(0, "errorKind");
        x.is(NONE, "errorPlace").text("slice a { any }").is(0, "load").is(0, "clearText").is(1, "count", 5);
    }

    // ---- section 9: tokens

    private static void eachByteAlone() {
        for (int one = 1; one < 256; one++) {
            boolean isLetter = one >= 'a' && one <= 'z';
            boolean isToken = isLetter || one >= '0' && one <= '9' || "{}();,|=".indexOf(one) >= 0;
            boolean isBlank = one == 32 || one == 10;
            int kind = isBlank ? 0 : isToken ? 2 : 1;
            error("" + (char) one, kind, isBlank ? NONE : 0);
            // behind a NAME: it goes on with a letter, and ends with anything else
            String name = "slice a" + (char) one + "{any}";
            if (isBlank || isLetter && one != 't') {
                fine(name);
            } else {
                // "at" is a word of the language
                error(name, kind, one == 't' ? 6 : one == '{' ? 8 : 7);
            }
        }
    }

    private static void bytesOfLongTokens() {
        for (int one = 1; one < 256; one++) {
            boolean isLetter = one >= 'a' && one <= 'z';
            boolean isToken = isLetter || one >= '0' && one <= '9' || "{}();,|=".indexOf(one) >= 0;
            if (!isToken && one != 32 && one != 10) {
                // of := and .. each byte counts
                error("policy a{to" + (char) one + "=1}", one == ':' ? 0 : 1, one == ':' ? NONE : 11);
                error("slice a{to=1" + (char) one + ".2}", one == '.' ? 0 : 1, one == '.' ? NONE : 12);
                error("policy a{to:" + (char) one + "1}", 1, 11);
                error("slice a{to=1." + (char) one + "2}", one == '.' ? 0 : 1, one == '.' ? NONE : 12);
            }
        }
    }

    private static void tokensAreAsLongAsPossible() {
        fine("policy a{out 1|to:=1;mark:=7|at 0,1{drop}}slice b{to=1..2and(from=3)}");
        fine("policy a{out1|to:=15;out5|at7{drop}|if to=3or mark=4..7and not kind=7{out2}}");
        error("policya { out 1 }", 2, 0);
        error("policy a { outx 1 }", 2, 11);
        error("policy a { out 1 0 }", 2, 17);
        error("policy a { out 10 }", 6, 15);
        error("policy a { to := = 1 }", 2, 17);
        error("policy a { to ::= 1 }", 1, 14);
        error("policy a { to : = 1 }", 1, 14);
        error("policy a { to:", 1, 13);
        error("policy a { to:=", 2, 15);
        error("slice a { to = 1 .. 2 }", 0, NONE);
        error("slice a { to = 1..2 }", 0, NONE);
        error("slice a { to = 1...2 }", 1, 18);
        error("slice a { to = 1....2 }", 2, 18);
        error("slice a { to = 1 . . 2 }", 1, 17);
        error("slice a { to = 1.", 1, 16);
        error("slice a { to = 1..", 2, 18);
        error("slice a { to == 1 }", 2, 14);
        error("slice a { not any }}", 2, 19);
        error("slice a {{ any }", 2, 9);
        error("slice a { notany }", 2, 10);
    }

    private static void numbersUpTo999() {
        error("policy a { out 999 }", 6, 15);
        error("policy a { out 1000 }", 1, 15);
        error("policy a { out 0999 }", 6, 15);
        error("policy a { out 01000 }", 1, 15);
        fine("policy a { out 5 }");
        fine("policy a { out 0 }");
        fine("policy a { out 00000000000000000000000000000000000000005 }");
        for (String number : new String[] {"9999", "65536", "2147483647", "2147483648", "4294967296", "4294967297",
            "9223372036854775808", "18446744073709551616", "18446744073709551617", "1" + "0".repeat(400)}) {
            error("policy a { out " + number + " }", 1, 15);
            error(number, 1, 0);
        }
        error("999", 2, 0);
        error("1000", 1, 0);
        error("policy 1000", 1, 7);
        error("policy a { drop 1000 }", 1, 16);
        error("policy a { drop 999 }", 2, 16);
    }

    private static void endOfTheText() {
        String[] texts = {"policy", "policy a", "policy a {", "policy a { if", "policy a { if any",
                "policy a { if any {",
            "policy a { at", "policy a { at 1", "policy a { at 1 ,", "policy a { at 1 , 7 {", "policy a { (",
                    "policy a { ( drop",
            "policy a { drop", "policy a { drop ;", "policy a { drop |", "policy a { out", "policy a { out 1",
                    "policy a { to", "policy a { to :=",
            "policy a { to := 1", "policy a { if any { drop }", "policy a { if any { drop } else",
                    "policy a { if any { drop } else {",
            "slice", "slice a", "slice a {", "slice a { not", "slice a { (", "slice a { ( any", "slice a { any and",
                    "slice a { any or", "slice a { any",
            "slice a { to", "slice a { to =", "slice a { to = 1", "slice a { to = 1 ..", "slice a { to = 1 .. 2",
                    "policy a { if in", "policy a { if in 1"};
        for (String text : texts) {
            error(text, 2, text.length());
            error(text + " ", 2, text.length() + 1);
            error(text + "\n \n", 2, text.length() + 3);
        }
        fine("");
        fine(" ");
        fine("\n");
        fine(" slice a { any }\n\n  ");
    }

    private static void endOfAFullText() {
        fine(BLANKS);
        fine(BLANKS.substring(15) + "slice a { any }");
        fine("slice a { any }" + BLANKS.substring(15));
        error(BLANKS.substring(14) + "slice a { any ", 2, 2500);
        error(BLANKS.substring(6) + "policy", 2, 2500);
        error(BLANKS.substring(1) + ":", 1, 2499);
        error(BLANKS.substring(1) + ".", 1, 2499);
        error(BLANKS.substring(1) + "}", 2, 2499);
        error(BLANKS.substring(3) + "999", 2, 2497);
        error(BLANKS.substring(4) + "1000", 1, 2496);
        error("policy a{to" + BLANKS.substring(13) + ":=", 2, 2500);
        error("slice a{to=1" + BLANKS.substring(14) + "..", 2, 2500);
        error("slice a{to=1" + BLANKS.substring(13) + ".", 1, 2499);
        error("slice a{to=1" + BLANKS.substring(13) + "x", 2, 2499);
        error("slice " + "a".repeat(2494), 2, 6);
        fine("slice a{" + "any and ".repeat(310) + "any}");
        fine("slice a{" + "any or ".repeat(355) + "any}");
        fine("policy a{" + "drop;".repeat(490) + "out 1}");
        fine("policy a{at 0" + ",7".repeat(1240) + "{drop}}");
        error("policy a{" + "drop|".repeat(490) + "out 1}", 7, 9 + 5 * 490 + 5);
    }

    // ---- section 9: what can stand

    private static void whatCanStand() {
        error("policy a { in 1 }", 2, 11);
        fine("policy a { if in 1 { drop } }");
        error("slice a { in 1 }", 2, 10);
        error("slice a { any or in 1 }", 2, 17);
        error("slice a { any and not (in 1) }", 2, 23);
        error("policy a { if in 1 { drop } } slice b { in 1 }", 2, 40);
        fine("slice b { any } policy a { if in 1 { drop } }");
        error("policy a { }", 2, 11);
        error("slice a { }", 2, 10);
        error("policy a { drop ; }", 2, 18);
        error("policy a { drop | }", 2, 18);
        error("policy a { ; drop }", 2, 11);
        error("policy a { ( ) }", 2, 13);
        error("policy a { at { drop } }", 2, 14);
        error("policy a { at 1 , { drop } }", 2, 18);
        error("policy a { at , 1 { drop } }", 2, 14);
        error("policy a { if any { drop } else { drop } else { drop } }", 2, 41);
        error("policy a { else { drop } }", 2, 11);
        fine("policy a { if any { drop } else { drop } ; if any { drop } | at 1 { drop } ; drop }");
        error("policy a { if any { } }", 2, 20);
        error("policy a { if { drop } }", 2, 14);
        error("slice a { to = 1 .. }", 2, 20);
        error("slice a { to .. 1 }", 2, 13);
        error("slice a { any = 1 }", 2, 14);
        error("policy a { in := 1 }", 2, 11);
        error("policy a { to = 1 }", 2, 14);
        error("slice a { to := 1 }", 2, 13);
        error("policy a { drop } , slice b { any }", 2, 18);
        error("slice a { any } any", 2, 16);
        // three and more in a row, each of which counts
        Run x = new Run(14, "all parts of a test")
                .text("slice a { from = 1 and to = 1 and kind = 1 and mark = 1 } slice b { from = 1 or to = 1 or kind = 1 or mark = 1 }").is(0, "load");
        int[] fields = {1024, 64, 8, 1};
        x.is(1, "has", 0, 1024 + 64 + 8 + 1).is(0, "has", 1, 0);
        for (int one : fields) {
            x.is(0, "has", 0, 1024 + 64 + 8 + 1 - one).is(1, "has", 1, one);
        }
        Run y = new Run(14, "all parts of a policy")
                .text("policy a { out 1 | out 2 | out 3 | at 0, 3, 7 { out 0 } } policy b { from := 1 ; to := 2 ; kind := 3 ; mark := 4 ; out 5 }").is(2, "load");
        for (int at = 0; at < 8; at++) {
            int first = at == 0 || at == 3 || at == 7 ? 0 : 1;
            for (int port = first; port < 4; port++) {
                y.is(port, "actionAt", 0, at, 0, port - first, 0);
            }
        }
        y.are("actionAt", Run.of(1, 0, 0, 0), 5, 1, 2, 3, 4);
    }

    // ---- section 9: 20 deep

    private static String times(int howOften, String words) {
        return words.repeat(howOften);
    }

    private static void twentyDeep() {
        // the { of the policy or slice is one
        fine("policy a {" + times(19, "(") + "drop" + times(19, ")") + "}");
        error("policy a {" + times(20, "(") + "drop" + times(20, ")") + "}", 3, 10 + 19);
        fine("policy a {" + times(19, "if any {") + "drop" + times(20, "}"));
        error("policy a {" + times(20, "if any {") + "drop" + times(21, "}"), 3, 10 + 19 * 8 + 7);
        fine("policy a {" + times(19, "if any { drop } else {") + "drop" + times(20, "}"));
        error("policy a {" + times(20, "if any { drop } else {") + "drop" + times(21, "}"), 3, 10 + 19 * 22 + 7);
        fine("policy a {" + times(18, "(") + "if any { drop } else { drop }" + times(18, ")") + "}");
        fine("policy a {" + times(19, "at 0 {") + "drop" + times(20, "}"));
        error("policy a {" + times(20, "at 0 {") + "drop" + times(21, "}"), 3, 10 + 19 * 6 + 5);
        fine("slice a {" + times(19, "(") + "any" + times(19, ")") + "}");
        error("slice a {" + times(20, "(") + "any" + times(20, ")") + "}", 3, 9 + 19);
        fine("slice a {" + times(19, "not ") + "any}");
        error("slice a {" + times(20, "not ") + "any}", 3, 9 + 19 * 4);
        fine("slice a {" + times(9, "not (") + "not any" + times(9, ")") + "}");
        error("slice a {" + times(9, "not (") + "not not any" + times(9, ")") + "}", 3, 9 + 9 * 5 + 4);
        error("slice a {" + times(9, "not (") + "not (any)" + times(9, ")") + "}", 3, 9 + 9 * 5 + 4);
        fine("policy a {" + times(18, "(") + "if (any) { drop }" + times(18, ")") + "}");
        error("policy a {" + times(19, "(") + "if (any) { drop }" + times(19, ")") + "}", 3, 10 + 19 + 3);
        fine("policy a {" + times(18, "(") + "if not any { drop }" + times(18, ")") + "}");
        error("policy a {" + times(19, "(") + "if not any { drop }" + times(19, ")") + "}", 3, 10 + 19 + 3);
        error("policy a {" + times(19, "(") + "if any { drop }" + times(19, ")") + "}", 3, 10 + 19 + 7);
        error("policy a {" + times(19, "(") + "at 0 { drop }" + times(19, ")") + "}", 3, 10 + 19 + 5);
        // what was closed does not count
        fine("policy a {" + times(19, "(") + "drop" + times(19, ")") + ";" + times(19, "(") + "drop" + times(19, ")")
                + "}");
        error("policy a {" + times(19, "(") + "drop" + times(18, ")") + ";" + times(19, "(") + "drop", 3, 10 + 19 + 4
                + 18 + 1 + 18);
        fine("policy a { drop } policy b {" + times(19, "(") + "drop" + times(19, ")") + "} slice c {"
                + times(19, "not ") + "any}");
        fine("policy a {" + times(18, "(") + "if (any) and (any) or (any) { drop } else { drop }" + times(18, ")")
                + "}");
    }

    private static void notWhoseFactHasEnded() {
        fine("slice a {" + times(40, "not any and ") + "not any}");
        fine("slice a {" + times(40, "not any or ") + "not any}");
        fine("slice a {" + times(40, "not to = 1 .. 2 or ") + "not any}");
        fine("slice a {" + times(19, "not ") + "any and " + times(19, "not ") + "any or " + times(19, "not ") + "any}");
        fine("slice a { not (" + times(17, "not ") + "any) and " + times(19, "not ") + "any}");
        error("slice a {not (" + times(17, "not ") + "any and " + times(18, "not ") + "any)}", 3, 14 + 17 * 4 + 8
                + 17 * 4);
        fine("policy a {" + times(18, "(") + "if not any and not any or not to = 1 { drop }" + times(18, ")") + "}");
        // the { behind a test is no part of the fact
        fine("policy a {" + times(17, "(") + "if not not any { drop }" + times(17, ")") + "}");
        fine("policy a {" + times(17, "(") + "if not not any { (drop) }" + times(17, ")") + "}");
        error("policy a {" + times(17, "(") + "if not not any { ((drop)) }" + times(17, ")") + "}", 3, 10 + 17 + 18);
    }

    // ---- section 9: names

    private static void namesOfOneToEight() {
        fine("policy z { drop } slice z { any }");
        fine("policy abcdefgh { drop } slice hgfedcba { any }");
        error("policy abcdefghi { drop }", 2, 7);
        error("slice abcdefghi { any }", 2, 6);
        error("policy abcdefghabcdefgh { drop }", 2, 7);
        fine("policy abcdefg { drop } policy abcdefgh { drop } policy bcdefgh { drop } policy aabcdefg { drop }");
        error("policy abcdefgh { drop } policy abcdefgh { drop }", 4, 32);
        // words of the language with a letter more or less are NAMEs, if they are no longer than 8
        fine("policy policyx { drop } slice slic { any } slice fro { any } slice froms { any } slice o { any } slice no { any }");
        for (String word : new String[] {"policy", "slice", "drop", "pass", "out", "if", "else", "at", "or", "and",
                "not",
            "any", "in", "from", "to", "kind", "mark"}) {
            error("policy " + word + " { drop }", 2, 7);
            error("slice " + word + " { any }", 2, 6);
        }
        error("policy { drop }", 2, 7);
        error("policy 1 { drop }", 2, 7);
    }

    private static void namesThatAreTaken() {
        error("policy a { drop } policy a { drop }", 4, 25);
        error("slice a { any } slice a { any }", 4, 22);
        fine("policy a { drop } slice a { any } policy b { drop } slice b { any }");
        error("policy a { drop } policy b { drop } policy a", 4, 43);
        error("policy a { drop } policy b { drop } policy b", 4, 43);
        Run x = new Run(12, "the NAME of another one in the store").text("policy a { drop } slice b { any }")
                .is(1, "load");
        errorIn(x, "policy a { drop }", 4, 7);
        errorIn(x, "slice b { any }", 4, 6);
        errorIn(x, "slice a { any } policy b { drop }", 0, NONE);
        x.is(2, "load");
        errorIn(x, "policy b", 4, 7);
        errorIn(x, "slice a", 4, 6);
        errorIn(x, "policy c { drop } policy c", 4, 25);
        // a text that was not loaded takes no names
        errorIn(x, "policy c { drop }", 0, NONE);
        x.call("clearText");
        errorIn(x, "policy c { drop }", 0, NONE);
        x.is(3, "load");
        errorIn(x, "policy c { drop }", 4, 7);
    }

    // ---- section 9: a 7th one of its sort

    private static String many(String sort, String part, int first, int howMany) {
        StringBuilder text = new StringBuilder();
        for (int i = first; i < first + howMany; i++) {
            text.append(sort).append(' ').append((char) ('a' + i)).append("{").append(part).append("}");
        }
        return text.toString();
    }

    private static void sixOfEachSort() {
        String six = many("policy", "drop", 0, 6);
        fine(six);
        error(six + "policy g{drop}", 5, six.length());
        error(six + " policy", 5, six.length() + 1);
        error(six + "policy a{drop}", 5, six.length());
        error(six + "policy 1000", 5, six.length());
        fine(six + many("slice", "any", 0, 6));
        String all = six + many("slice", "any", 0, 6);
        error(all + "slice", 5, all.length());
        error(all + "policy", 5, all.length());
        error(all + "drop", 2, all.length());
        fine(many("slice", "any", 0, 6) + many("policy", "drop", 0, 6));
        error(many("slice", "any", 0, 7), 5, 6 * 12);
        Run x = new Run(14, "six of each sort").text(all).is(6, "load").is(6, "count", 4).is(6, "count", 5);
        x.is(0, "rules", 5, 0).is(1, "has", 5, 0).refuses(Run.INDEX, "rules", 6, 0).refuses(Run.INDEX, "has", 6, 0);
    }

    private static void sixInTheStore() {
        Run x = new Run(12, "a 7th one, of which some are in the store").text(many("policy", "drop", 0, 5))
                .is(5, "load");
        errorIn(x, many("policy", "drop", 5, 1), 0, NONE);
        errorIn(x, many("policy", "drop", 5, 2), 5, 14);
        errorIn(x, many("slice", "any", 0, 6), 0, NONE);
        x.is(5, "load");
        errorIn(x, many("slice", "any", 6, 1), 5, 0);
        errorIn(x, many("policy", "drop", 5, 1), 0, NONE);
        x.is(6, "load");
        errorIn(x, many("policy", "drop", 6, 1), 5, 0);
        errorIn(x, "", 0, NONE);
        x.is(6, "load").is(6, "count", 5);
    }

    // ---- section 9: numbers

    private static void numbersForWhatTheyTell() {
        String[] fields = {"from", "to", "kind", "mark"};
        int[] most = {15, 15, 7, 7};
        for (int f = 0; f < 4; f++) {
            int place = 12 + fields[f].length() + 3;
            for (int n : new int[] {0, most[f], most[f] + 1, 99, 999}) {
                boolean isFine = n <= most[f];
                error("policy a { " + fields[f] + " := " + n + " }", isFine ? 0 : 6, isFine ? NONE : place);
                error("slice a { " + fields[f] + " = " + n + " }", isFine ? 0 : 6, isFine ? NONE : place - 2);
                error("slice a { " + fields[f] + " = 0 .. " + n + " }", isFine ? 0 : 6, isFine ? NONE : place + 3);
                error("policy a { if " + fields[f] + " = " + n + " { drop } }", isFine ? 0 : 6, isFine ? NONE : place
                        + 2);
            }
        }
        for (int n : new int[] {0, 5, 6, 7, 8, 15, 16, 999}) {
            error("policy a { out " + n + " }", n <= 5 ? 0 : 6, n <= 5 ? NONE : 15);
            error("policy a { if in " + n + " { drop } }", n <= 5 ? 0 : 6, n <= 5 ? NONE : 17);
            error("policy a { at " + n + " { drop } }", n <= 7 ? 0 : 6, n <= 7 ? NONE : 14);
            error("policy a { at 7, " + n + " { drop } }", n <= 7 ? 0 : 6, n <= 7 ? NONE : 17);
        }
    }

    private static void numbersBehindDots() {
        String[] fields = {"from", "to", "kind", "mark"};
        int[] most = {15, 15, 7, 7};
        for (int f = 0; f < 4; f++) {
            for (int low : new int[] {0, 1, most[f] - 1, most[f]}) {
                String text = "slice a { " + fields[f] + " = " + low + " .. ";
                fine(text + low + " }");
                fine(text + most[f] + " }");
                error(text + (most[f] + 1) + " }", 6, text.length());
                if (low > 0) {
                    error(text + (low - 1) + " }", 6, text.length());
                }
            }
            String text = "slice a { " + fields[f] + " = ";
            error(text + (most[f] + 1) + " .. " + most[f] + " }", 6, text.length());
        }
        fine("slice a { to = 9 .. 10 and kind = 2 .. 2 and to = 1 .. 2 }");
    }

    // ---- section 9: the width

    private static void widthOfEight() {
        fine("policy a { " + EIGHT + " }");
        error("policy a { " + EIGHT + " | pass }", 7, 11 + EIGHT.length() + 8);
        for (String unit : new String[] {"drop", "pass", "out 1", "to := 1"}) {
            fine("policy a {" + times(7, unit + "|") + unit + "}");
            error("policy a {" + times(8, unit + "|") + unit + "}", 7, 10 + 9 * unit.length() + 8);
            fine("policy a {" + times(30, unit + ";") + unit + "}");
        }
        fine("policy a {(pass|pass);(pass|pass);(pass|pass)}");
        fine("policy a {(pass|pass|pass|pass);(pass|pass)}");
        error("policy a {(pass|pass|pass);(pass|pass|pass)}", 7, 43);
        error("policy a {(pass|pass|pass|pass|pass);(pass|pass)}", 7, 48);
        fine("policy a {(pass|pass);(pass|pass)|(pass|pass);(pass|pass)}");
        error("policy a {(pass|pass);(pass|pass)|(pass|pass);(pass|pass)|drop}", 7, 62);
        // only the last } of the policy has the error
        error("policy a { if any { " + EIGHT + " | pass } } }", 7, 11 + 9 + EIGHT.length() + 10);
        error("policy a { drop } policy b { " + EIGHT + " | pass } A", 7, 29 + EIGHT.length() + 8);
        error("policy a { " + EIGHT + " | pass", 2, 11 + EIGHT.length() + 7);
        error("policy a { " + EIGHT + " | pass A", 1, 11 + EIGHT.length() + 8);
    }

    private static void widthOfParts() {
        fine("policy a { if any { " + EIGHT + " } }");
        error("policy a { if any { " + EIGHT + "|pass } }", 7, 11 + 9 + EIGHT.length() + 5 + 3);
        fine("policy a { if any { " + EIGHT + " } else { " + EIGHT + " } }");
        fine("policy a { if any { drop } else { " + EIGHT + " } }");
        error("policy a { if any { drop } else { " + EIGHT + "|pass } }", 7, 34 + EIGHT.length() + 5 + 3);
        error("policy a { if any { " + EIGHT + "|pass } else { drop } }", 7, 20 + EIGHT.length() + 5 + 17);
        fine("policy a { at 0 { " + EIGHT + " } }");
        error("policy a { at 0 { " + EIGHT + "|pass } }", 7, 18 + EIGHT.length() + 5 + 3);
        error("policy a { at 0 { " + EIGHT + " } | at 1 { drop } }", 7, 18 + EIGHT.length() + 19);
        fine("policy a { ( " + EIGHT + " ) }");
        error("policy a { ( " + EIGHT + "|pass ) }", 7, 13 + EIGHT.length() + 5 + 3);
        fine("policy a { (if any { pass | pass } else { pass }) ; (at 7 { pass | pass }) ; (pass | pass) }");
        String parts = "policy a { (if any { pass } else { pass | pass }) ; (at 7 { pass | pass }) ; (pass | pass) | drop ";
        error(parts + "}", 7, parts.length());
        fine("policy a { drop ; (" + EIGHT + ") ; drop }");
    }

    private static void hugeWidths() {
        for (int n : new int[] {3, 4, 30, 31, 32, 33, 62, 63, 64, 65, 96, 128}) {
            String text = "policy a {" + times(n, "(pass|pass);") + "pass";
            error(text + "}", n > 3 ? 7 : 0, n > 3 ? text.length() : NONE);
        }
        // 3 ** 20 is negative as a number of 32 bits, 3 ** 41 has more than 64, and 12 ** 32 ends with 64 bits that are 0
        for (int n : new int[] {20, 41}) {
            String text = "policy a {" + times(n, "(pass|pass|pass);") + "pass";
            error(text + "}", 7, text.length());
        }
        String nine = "policy a {" + times(32, "(pass|drop|pass|pass|drop|pass);") + times(32, "(drop|drop);")
                + "drop | drop";
        error(nine + "}", 7, nine.length());
    }

    // ---- section 9: the rules

    private static void sixtyRules() {
        fine("policy a { " + SIXTY + " }");
        fine("policy a { if in 0 { " + SIXTY + " } }");
        String more = "policy a { " + SIXTY_ONE;
        error(more + " }", 8, more.length() + 1);
        for (int at = 0; at < 8; at++) {
            String text = "policy a { at " + at + " { " + SIXTY_ONE + " } ";
            error(text + "}", 8, text.length());
            fine("policy a { at " + at + " { " + SIXTY + " } }");
        }
        Run x = new Run(16, "60 rules").text("policy a { at 7 { " + SIXTY + " } }").is(1, "load").is(60, "rules", 0, 7)
                .is(0, "rules", 0, 6);
        x.are("ruleAt", Run.of(0, 7, 59), 63, 63, 1).refuses(Run.INDEX, "ruleAt", 0, 7, 60, 0);
        String text = "policy b { drop } policy a { " + SIXTY_ONE + " ";
        error(text + "} A", 8, text.length());
        error(text, 2, text.length());
        error(text + "; drop }", 0, NONE);
        error(text + "A", 1, text.length());
        // many more than 60, and rules that would be more before they are found to be the same
        String all = "policy a { if from = 1 or from = 2 or from = 4 or from = 7 { " + SIXTY + " } else { " + SIXTY_ONE
                + " } ";
        error(all + "}", 8, all.length());
        fine("policy a { if from = 1 or from = 2 or from = 4 or from = 7 { " + SIXTY + " } else { " + SIXTY + " } }");
        // 61 rules and more of the rows with 0, or with 1, at the first bit, at the second one, at both
        String two = "if to = 8 .. 11 { " + SIXTY + " } else { out 3 }";
        for (String half : new String[] {two, SIXTY, "if kind = 0 { drop } else { " + SIXTY + " }"}) {
            String[] texts = {"if from = 0 .. 7 { " + half + " } else { out 4 }", "if from = 8 .. 15 { " + half
                    + " } else { out 4 }",
                "if to = 0 .. 7 { drop } else { if from = 0 .. 7 { " + half + " } else { out 4 } }"};
            boolean areFew = half.startsWith("if kind = 0");
            for (String body : texts) {
                error("policy a { " + body + " }", areFew ? 0 : 8, areFew ? NONE : 11 + body.length() + 1);
            }
        }
    }

    private static void rulesOfATextBefore() {
        Run x = new Run(14, "nothing of a text that was not loaded is left")
                .text("policy a { if mark = 1 { out 1 } else { out 2 } } policy b { out 1 } x").is(2, "errorKind");
        x.call("clearText")
                .text("policy a { at 1 { out 2 } } policy b { at 2, 3 { out 3 } | at 4 { if kind = 7 { out 0 } } }")
                .is(2, "load");
        int[] a = {0, 1, 0, 0, 0, 0, 0, 0};
        int[] b = {0, 0, 1, 1, 1, 0, 0, 0};
        for (int at = 0; at < 8; at++) {
            x.is(a[at], "rules", 0, at).is(b[at], "rules", 1, at);
        }
        x.are("ruleAt", Run.of(1, 3, 0), 0, 0, 1).are("ruleAt", Run.of(1, 4, 0), 56, 56, 1)
                .is(3, "actionAt", 1, 3, 0, 0, 0).is(2, "actionAt", 0, 1, 0, 0, 0);
        Run y = new Run(14, "nor of a text whose rules were too many").text("policy a { " + SIXTY_ONE + " }")
                .is(8, "errorKind").call("clearText").text("policy a { out 1 }").is(1, "load");
        for (int at = 0; at < 8; at++) {
            y.is(1, "rules", 0, at).are("ruleAt", Run.of(0, at, 0), 0, 0, 1);
        }
    }

    // ---- section 9: which error

    private static void leastKindOfAToken() {
        // 1 ahead of 2 and of 6
        error("policy a { drop 1000", 1, 16);
        error("policy a { out 1000 }", 1, 15);
        // 2 ahead of 3: it can't stand there, and would be too deep
        error("policy a {" + times(19, "(") + "drop (", 2, 10 + 19 + 5);
        error("policy a {" + times(19, "(") + "drop {", 2, 10 + 19 + 5);
        error("slice a {" + times(19, "(") + "any not", 2, 9 + 19 + 4);
        error("slice a {" + times(19, "not ") + "any {", 2, 9 + 19 * 4 + 4);
        error("policy a {" + times(19, "(") + "if any (", 2, 10 + 19 + 7);
        error("policy a {" + times(19, "(") + "not any", 2, 10 + 19);
        // 2 ahead of 5: the word can't stand there
        String six = many("policy", "drop", 0, 6);
        error(six + "slice policy", 2, six.length() + 6);
        error(six + "slice a { policy", 2, six.length() + 10);
        // 7 ahead of 8
        String both = "policy a { " + SIXTY_ONE + " | " + EIGHT + " ";
        error(both + "}", 7, both.length());
        // 6 only where the number can stand
        error("policy a { 16", 2, 11);
        error("slice a { to = 1 2 .. 1", 2, 17);
    }

    private static void firstError() {
        error("A", 1, 0);
        error("out A", 2, 0);
        error("policy a { out 6 A", 6, 15);
        error("policy a { out 6 | out 1000 }", 6, 15);
        error("policy a { out 1000 | out 6 }", 1, 15);
        error("policy a { drop } policy a { out 6 }", 4, 25);
        error("policy a { out 6 } policy a { drop }", 6, 15);
        error("policy a {" + times(20, "(") + "A", 3, 29);
        error("policy a { " + EIGHT + " | pass } policy a", 7, 11 + EIGHT.length() + 8);
        Run x = new Run(12, "the first error as the text grows");
        x.is(0, "errorKind").text("policy a { out").is(2, "errorKind").is(14, "errorPlace").text(" ").is(2, "errorKind")
                .is(15, "errorPlace");
        x.text("5").is(2, "errorKind").is(16, "errorPlace").text("}").is(0, "errorKind").is(NONE, "errorPlace");
        x.text("}").is(2, "errorKind").is(17, "errorPlace").refuses(STATE, "load").call("clearText").is(0, "errorKind");
    }

    // ---- promise 14

    private static void load() {
        Run x = new Run(14, "puts all into the store, and empties the text").is(0, "load").is(0, "load");
        x.text("policy a { out 1 } slice s { any }").is(1, "load").is(0, "count", 14).is(1, "count", 4)
                .is(1, "count", 5);
        x.is(1, "load").is(1, "count", 4).text("slice t { not any }").is(1, "load").is(2, "count", 5);
        x.is(1, "has", 0, 0).is(0, "has", 1, 0).text("policy b { out 2 } policy c { out 3 }").is(3, "load");
        x.is(1, "actionAt", 0, 0, 0, 0, 0).is(2, "actionAt", 1, 0, 0, 0, 0).is(3, "actionAt", 2, 0, 0, 0, 0);
        x.text("policy d { out 4 } policy e { out 5 } policy f { out 0 } policy g { drop }").refuses(STATE, "load");
        x.is(3, "count", 4).refuses(Run.INDEX, "rules", 3, 0).refuses(Run.INDEX, "update", 3, NONE, 0)
                .call("clearText");
        x.text("policy d { out 4 } policy e { out 5 } policy f { out 0 }").is(6, "load")
                .is(0, "actionAt", 5, 0, 0, 0, 0);
        x.is(1, "actionAt", 0, 0, 0, 0, 0).is(6, "load");
        // the store can be added to while updates go on
        Run y = new Run(14, "while an update goes on").house(2, "policy a { out 1 }").call("update", 0, NONE, 0);
        y.text("policy b { out 2 }").is(2, "load").call("settle").call("update", 1, NONE, 0).call("settle")
                .is(3, "controllerAt", 0);
    }
}
