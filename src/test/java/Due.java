/** What the tests of the promises share: they count what is not as it is due. */
final class Due {
    private int wrong;
    private int asked;

    interface Call {
        Object ask();
    }

    void is(int promise, String what, long got, long due) {
        asked++;
        if (got != due) {
            wrong++;
            System.out.println("promise " + promise + ": " + what + " answered " + got + ", due is " + due);
        }
    }

    void is(int promise, String what, boolean got, boolean due) {
        is(promise, what, got ? 1 : 0, due ? 1 : 0);
    }

    void isReal(int promise, String what, double got, double due) {
        asked++;
        if (got != due) {
            wrong++;
            System.out.println("promise " + promise + ": " + what + " answered " + got + ", due is " + due);
        }
    }

    /** The numbers that a question gives for 0, 1, 2 and so on. */
    void are(int promise, String what, java.util.function.IntUnaryOperator question, int... due) {
        for (int i = 0; i < due.length; i++) {
            is(promise, what + " " + i, question.applyAsInt(i), due[i]);
        }
    }

    void fails(int promise, String what, Class<? extends RuntimeException> due, Call call) {
        asked++;
        String got;
        try {
            got = "answered " + call.ask();
        } catch (RuntimeException e) {
            if (e.getClass() == due) {
                return;
            }
            got = "threw " + e;
        }
        wrong++;
        System.out.println("promise " + promise + ": " + what + " " + got + ", due is " + due.getSimpleName());
    }

    void noIndex(int promise, String what, Call call) {
        fails(promise, what, IndexOutOfBoundsException.class, call);
    }

    void noArgument(int promise, String what, Call call) {
        fails(promise, what, IllegalArgumentException.class, call);
    }

    void noState(int promise, String what, Call call) {
        fails(promise, what, IllegalStateException.class, call);
    }

    void noElement(int promise, String what, Call call) {
        fails(promise, what, java.util.NoSuchElementException.class, call);
    }

    void end(String name) {
        System.out.println(name + ": " + asked + " answers, " + wrong + " not as due");
        if (wrong != 0 || asked == 0) {
            System.exit(1);
        }
    }

    // ---- shared ways to make a house

    /** Types a text of bytes 1 to 255, six numbers a call. */
    static void type(FlowHouse house, String text) {
        for (int i = 0; i < text.length(); i += 48) {
            long[] six = new long[6];
            for (int j = 0; j < 48; j++) {
                six[j / 8] = six[j / 8] << 8 | (i + j < text.length() ? text.charAt(i + j) : 0);
            }
            house.type(six[0], six[1], six[2], six[3], six[4], six[5]);
        }
    }

    /** A house with one of the built networks and the policies of a text. */
    static FlowHouse house(int network, String text) {
        FlowHouse house = new FlowHouse();
        house.build(network);
        type(house, text);
        house.load();
        return house;
    }

    static int header(int from, int to, int kind, int mark) {
        return ((from * 16 + to) * 8 + kind) * 8 + mark;
    }
}
