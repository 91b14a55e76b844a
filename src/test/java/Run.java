import java.lang.reflect.InvocationTargetException;
import java.lang.reflect.Method;
import java.util.ArrayList;
import java.util.Arrays;
import java.util.HashMap;
import java.util.List;
import java.util.Map;
import java.util.NoSuchElementException;
import java.util.Set;

/**
 * A run of calls on a new object, each with what is due. It can be made again on another object, so that a call that
 * is refused is looked at from behind: all that can be asked must be as without it, at once and after further calls.
 */
final class Run {
    static final Class<? extends RuntimeException> INDEX = IndexOutOfBoundsException.class;
    static final Class<? extends RuntimeException> ARGUMENT = IllegalArgumentException.class;
    static final Class<? extends RuntimeException> STATE = IllegalStateException.class;
    static final Class<? extends RuntimeException> ELEMENT = NoSuchElementException.class;
    static final int NONE = -1;
    /** What the document promises ends behind so many calls of an object. */
    static final int MOST_CALLS = 512;

    private static final Set<String> CHANGING = Set.of("addSwitch", "addLink", "addHost", "build", "setLink", "restart",
            "type", "piece", "clearText", "load", "update", "cancel", "stop", "start", "deliver", "answer", "settle",
            "send", "pass");
    private static final Map<String, Method> METHODS = new HashMap<>();

    static {
        for (Method method : FlowHouse.class.getDeclaredMethods()) {
            METHODS.put(method.getName(), method);
        }
    }

    private static int asked;
    private static int wrong;

    /** A call, as the name of the method and its numbers (a boolean is 1 or 0). */
    record Call(String name, long... numbers) {
        /** The answer as a text, or "throws" with the exception's name. */
        String on(FlowHouse house) {
            Method method = METHODS.get(name);
            Class<?>[] types = method.getParameterTypes();
            Object[] values = new Object[types.length];
            for (int i = 0; i < types.length; i++) {
                values[i] = types[i] == boolean.class ? (Object) (numbers[i] != 0)
                        : types[i] == int.class ? (Object) Math.toIntExact(numbers[i]) : (Object) numbers[i];
            }
            try {
                Object answer = method.invoke(house, values);
                return answer instanceof Boolean b ? (b ? "1" : "0") : answer.toString();
            } catch (InvocationTargetException e) {
                return "throws " + e.getCause().getClass().getName();
            } catch (IllegalAccessException e) {
                throw new IllegalStateException(e);
            }
        }

        @Override
        public String toString() {
            String all = Arrays.toString(numbers);
            return name + "(" + all.substring(1, all.length() - 1) + ")";
        }
    }

    private final String told;
    private final FlowHouse house = new FlowHouse();
    private int calls;
    private final List<Call> changes = new ArrayList<>();
    /** How all stood behind so many changes, at once and after further calls. */
    private int seenBehind = -1;
    private List<String> seen;
    private List<String> seenLater;

    Run(int promise, String sentence) {
        told = "promise " + promise + ", " + sentence + ": ";
    }

    // ---- what a test says

    /** The answer that is due; questions are asked on this object, changes are kept to be made again. */
    Run is(long due, String name, long... numbers) {
        return expect(Long.toString(due), name, numbers);
    }

    Run isReal(String due, String name) {
        return expect(due, name);
    }

    /** Makes a call whose answer does not matter here, but which must have one. */
    Run call(String name, long... numbers) {
        Call call = new Call(name, numbers);
        String got = make(call);
        check(!got.startsWith("throws"), call + " " + got);
        return this;
    }

    Run times(int howOften, String name, long... numbers) {
        for (int i = 0; i < howOften; i++) {
            call(name, numbers);
        }
        return this;
    }

    /** The answers of a question whose last number is 0, 1, 2 and so on. */
    Run are(String name, long[] first, long... due) {
        for (int i = 0; i < due.length; i++) {
            long[] numbers = Arrays.copyOf(first, first.length + 1);
            numbers[first.length] = i;
            is(due[i], name, numbers);
        }
        return this;
    }

    static long[] of(long... numbers) {
        return numbers;
    }

    /** The call throws this, and nothing is changed by it. */
    Run refuses(Class<? extends RuntimeException> due, String name, long... numbers) {
        Call call = new Call(name, numbers);
        String got = make(call);
        check(got.equals("throws " + due.getName()), call + " " + got + ", due is " + due.getSimpleName());
        nothingIsChangedBy(List.of(call));
        return this;
    }

    /** Types a text, 48 bytes a call. */
    Run text(String words) {
        for (Call call : typing(words)) {
            call(call.name, call.numbers);
        }
        return this;
    }

    static List<Call> typing(String words) {
        List<Call> list = new ArrayList<>();
        for (int i = 0; i < words.length(); i += 48) {
            long[] six = new long[6];
            for (int j = 0; j < 48; j++) {
                six[j / 8] = six[j / 8] << 8 | (i + j < words.length() ? words.charAt(i + j) : 0);
            }
            list.add(new Call("type", six));
        }
        return list;
    }

    /** Builds a network and loads a text. */
    Run house(int network, String words) {
        call("build", network);
        return text(words).call("load");
    }

    /** Carries out the messages of each switch of so many, in order; the answers stay. */
    Run carryOut(int switches) {
        for (int at = 0; at < switches; at++) {
            while (!make(new Call("deliver", at, 0)).equals("-1")) {
                check(calls < MOST_CALLS, "too many calls");
            }
        }
        return this;
    }

    Run answers(int howMany) {
        return times(howMany, "answer", 0);
    }

    /** Lets the controller handle answers, the first one first, while it is in this phase. */
    Run answersWhile(int phase) {
        while (make(new Call("controllerAt", 0)).equals(Integer.toString(phase)) && calls < MOST_CALLS) {
            call("answer", 0);
        }
        return this;
    }

    /** All questions of a look, asked now, change nothing. */
    void questionsChangeNothing() {
        Look look = new Look(changes);
        look.all();
        look.walks();
        List<Call> questions = look.questions();
        for (int i = 0; i < questions.size(); i += 100) {
            nothingIsChangedBy(questions.subList(i, Math.min(questions.size(), i + 100)));
        }
    }

    int callsLeft() {
        return MOST_CALLS - calls;
    }

    /** All that can be asked is as behind another run. */
    void sameAs(Run other) {
        compare("it is not as behind another run: ", other.look(List.of(), false), look(List.of(), false));
    }

    static void same(String what, long got, long due) {
        asked++;
        if (got != due) {
            wrong++;
            System.out.println(what + " is " + got + ", due is " + due);
        }
    }

    static void end(String name) {
        System.out.println(name + ": " + asked + " answers, " + wrong + " not as due");
        if (wrong != 0 || asked == 0) {
            System.exit(1);
        }
    }

    // ---- how it is done

    private Run expect(String due, String name, long... numbers) {
        Call call = new Call(name, numbers);
        String got = make(call);
        check(got.equals(due), call + " answered " + got + ", due is " + due);
        return this;
    }

    private String make(Call call) {
        check(++calls <= MOST_CALLS, "more than 512 calls");
        String got = call.on(house);
        if (CHANGING.contains(call.name) && !got.startsWith("throws")) {
            changes.add(call);
        }
        return got;
    }

    private void check(boolean isRight, String what) {
        asked++;
        if (!isRight) {
            wrong++;
            System.out.println(told + what);
        }
    }

    private void nothingIsChangedBy(List<Call> extra) {
        if (seenBehind != changes.size()) {
            seenBehind = changes.size();
            seen = look(List.of(), false);
            seenLater = look(List.of(), true);
        }
        compare(extra.get(0) + " changed ", seen, look(extra, false));
        compare(extra.get(0) + " changed what came later: ", seenLater, look(extra, true));
    }

    private List<String> look(List<Call> extra, boolean isLater) {
        List<Call> all = new ArrayList<>(changes);
        all.addAll(extra);
        if (isLater) {
            all.addAll(later(300 - changes.size()));
        }
        Look look = new Look(all);
        look.all();
        return look.told();
    }

    /** Calls that bring to light what can't be asked: counts that a switch keeps, and what the controller knows. */
    private static List<Call> later(int room) {
        List<Call> list = new ArrayList<>();
        for (int i = 0; i < Math.min(8, room / 16); i++) {
            for (int at = 0; at < 8; at++) {
                list.add(new Call("deliver", at, 0));
            }
        }
        for (Call call : List.of(new Call("answer", 1), new Call("start"), new Call("settle"), new Call("pass", 109),
                new Call("settle"), new Call("send", 0, 64), new Call("addSwitch"), new Call("addHost", 0, 3),
                new Call("load"), new Call("update", 0, NONE, 0), new Call("settle"), new Call("pass", 12),
                new Call("setLink", 0, 0), new Call("send", 0, 1), new Call("cancel"))) {
            list.add(call);
        }
        return list;
    }

    private void compare(String what, List<String> due, List<String> got) {
        String first = "";
        for (int i = 0; i < Math.max(due.size(), got.size()) && first.isEmpty(); i++) {
            String a = i < due.size() ? due.get(i) : "nothing";
            String b = i < got.size() ? got.get(i) : "nothing";
            first = a.equals(b) ? "" : b + ", without it " + a;
        }
        check(first.isEmpty(), what + first);
    }
}
