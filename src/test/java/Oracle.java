import java.util.ArrayList;
import java.util.HashMap;
import java.util.HashSet;
import java.util.List;
import java.util.Map;
import java.util.NoSuchElementException;
import java.util.Set;
import java.util.TreeMap;

/**
 * A second, slow FlowHouse for the tests, written from the document alone: it evaluates policies row by row, walks
 * headers one by one and keeps its state in plain objects.
 */
final class Oracle {
    static final int NONE = -1;

    // ---- the text and its policies

    static final class Fault extends RuntimeException {
        private static final long serialVersionUID = 1;
        final int kind;
        final int place;

        Fault(int kind, int place) {
            this.kind = kind;
            this.place = place;
        }
    }

    record Token(String text, char sort, int place, int value) { }

    interface Test {
        boolean passes(int[] card, int port);
    }

    interface Maker {
        List<int[]> make(int[] card, int at, int port);
    }

    record Part(Maker maker, long width) { }

    /** The policy's actions, as texts that are the same for the same lists, for all rows of one switch. */
    static final class Table {
        final int[] listOfRow = new int[131072];
        final List<List<int[]>> lists = new ArrayList<>();
        final List<int[]> rules = new ArrayList<>();
    }

    static final class Plan {
        String name;
        Maker maker;
        final Table[] tables = new Table[8];
    }

    static final class Slice {
        String name;
        Test test;
    }

    static final String[] FIELDS = {"from", "to", "kind", "mark"};
    static final int[] MOST = {15, 15, 7, 7};
    static final Set<String> KEYWORDS = Set.of("policy", "slice", "drop", "pass", "out", "if", "else", "at", "or",
            "and", "not", "any", "in", "from", "to", "kind", "mark");

    static List<Token> tokens(byte[] text) {
        List<Token> list = new ArrayList<>();
        int i = 0;
        while (i < text.length) {
            int c = text[i] & 255;
            int j = i;
            if (c == 32 || c == 10) {
                i++;
                continue;
            }
            if (c >= 'a' && c <= 'z') {
                while (j < text.length && text[j] >= 'a' && text[j] <= 'z') {
                    j++;
                }
                list.add(new Token(latin(text, i, j), 'w', i, 0));
            } else if (c >= '0' && c <= '9') {
                while (j < text.length && text[j] >= '0' && text[j] <= '9') {
                    j++;
                }
                java.math.BigInteger value = new java.math.BigInteger(latin(text, i, j));
                boolean isBig = value.compareTo(java.math.BigInteger.valueOf(999)) > 0;
                list.add(new Token(latin(text, i, j), isBig ? '?' : 'n', i, isBig ? 0 : value.intValue()));
            } else if (c == ':' && i + 1 < text.length && text[i + 1] == '=') {
                j = i + 2;
                list.add(new Token(":=", 's', i, 0));
            } else if (c == '.' && i + 1 < text.length && text[i + 1] == '.') {
                j = i + 2;
                list.add(new Token("..", 's', i, 0));
            } else if ("{}();,|=".indexOf(c) >= 0) {
                j = i + 1;
                list.add(new Token("" + (char) c, 's', i, 0));
            } else {
                j = i + 1;
                list.add(new Token("?", '?', i, 0));
            }
            i = j;
        }
        list.add(new Token("", 'e', text.length, 0));
        return list;
    }

    static String latin(byte[] text, int from, int to) {
        return new String(text, from, to - from, java.nio.charset.StandardCharsets.ISO_8859_1);
    }

    final class Reader {
        final List<Token> tokens;
        int next;
        int depth;
        boolean inSlice;
        /** The switches that a policy names. */
        final Set<Integer> named = new HashSet<>();
        final List<Plan> plans = new ArrayList<>();
        final List<Slice> slices = new ArrayList<>();
        final Map<String, Plan> cache;
        final byte[] text;

        Reader(byte[] text, Map<String, Plan> cache) {
            this.text = text;
            this.tokens = tokens(text);
            this.cache = cache;
        }

        Token now() {
            return tokens.get(next);
        }

        Fault wrong() {
            return new Fault(now().sort == '?' ? 1 : 2, now().place);
        }

        boolean isNow(String word) {
            return (now().sort == 'w' || now().sort == 's') && now().text.equals(word);
        }

        boolean skip(String word) {
            if (isNow(word)) {
                next++;
                return true;
            }
            return false;
        }

        void need(String word) {
            if (!skip(word)) {
                throw wrong();
            }
        }

        void deeper(String word) {
            if (!isNow(word)) {
                throw wrong();
            }
            if (depth + 1 > 20) {
                throw new Fault(3, now().place);
            }
            depth++;
            next++;
        }

        void higher(String word) {
            need(word);
            depth--;
        }

        int number(int least, int most) {
            if (now().sort != 'n') {
                throw wrong();
            }
            int value = now().value;
            if (value > most || value < least) {
                throw new Fault(6, now().place);
            }
            next++;
            return value;
        }

        String name(Set<String> taken) {
            Token t = now();
            if (t.sort != 'w' || t.text.length() > 8 || KEYWORDS.contains(t.text)) {
                throw wrong();
            }
            if (taken.contains(t.text)) {
                throw new Fault(4, t.place);
            }
            next++;
            return t.text;
        }

        void readAll() {
            while (now().sort != 'e') {
                if (isNow("policy")) {
                    readPolicy();
                } else if (isNow("slice")) {
                    readSlice();
                } else {
                    throw wrong();
                }
            }
        }

        void readPolicy() {
            Set<String> taken = new HashSet<>();
            for (Plan p : Oracle.this.plans) {
                taken.add(p.name);
            }
            for (Plan p : plans) {
                taken.add(p.name);
            }
            if (taken.size() >= 6) {
                throw new Fault(5, now().place);
            }
            next++;
            String name = name(taken);
            int start = now().place;
            deeper("{");
            inSlice = false;
            named.clear();
            Part part = policy();
            if (!isNow("}")) {
                throw wrong();
            }
            if (part.width > 8) {
                throw new Fault(7, now().place);
            }
            String key = latin(text, start, now().place);
            Plan known = cache.get(key);
            if (known == null) {
                known = new Plan();
                known.maker = part.maker;
                // a policy tells the same of all switches that no "at" of it names
                Table others = null;
                for (int at = 0; at < 8; at++) {
                    boolean isNamed = named.contains(at);
                    if (isNamed || others == null) {
                        known.tables[at] = tabulate(part.maker, at);
                        others = isNamed ? others : known.tables[at];
                    } else {
                        known.tables[at] = others;
                    }
                }
                cache.put(key, known);
            }
            for (int at = 0; at < 8; at++) {
                if (known.tables[at].rules.size() > 60) {
                    throw new Fault(8, now().place);
                }
            }
            Plan plan = new Plan();
            plan.name = name;
            plan.maker = known.maker;
            System.arraycopy(known.tables, 0, plan.tables, 0, 8);
            plans.add(plan);
            higher("}");
        }

        void readSlice() {
            Set<String> taken = new HashSet<>();
            for (Slice s : Oracle.this.slices) {
                taken.add(s.name);
            }
            for (Slice s : slices) {
                taken.add(s.name);
            }
            if (taken.size() >= 6) {
                throw new Fault(5, now().place);
            }
            next++;
            Slice slice = new Slice();
            slice.name = name(taken);
            deeper("{");
            inSlice = true;
            slice.test = test();
            higher("}");
            slices.add(slice);
        }

        Part policy() {
            List<Part> parts = new ArrayList<>();
            do {
                parts.add(row());
            } while (skip("|"));
            long width = 0;
            for (Part p : parts) {
                width = Math.min(1000000, width + p.width);
            }
            return new Part((card, at, port) -> {
                List<int[]> made = new ArrayList<>();
                for (Part p : parts) {
                    addAll(made, p.maker.make(card, at, port));
                }
                return made;
            }, width);
        }

        Part row() {
            List<Part> parts = new ArrayList<>();
            do {
                parts.add(unit());
            } while (skip(";"));
            long width = 1;
            for (Part p : parts) {
                width = Math.min(1000000, width * p.width);
            }
            return new Part((card, at, port) -> {
                List<int[]> cards = new ArrayList<>();
                cards.add(card);
                for (Part p : parts) {
                    List<int[]> made = new ArrayList<>();
                    for (int[] one : cards) {
                        addAll(made, p.maker.make(one, at, port));
                    }
                    cards = made;
                }
                return cards;
            }, width);
        }

        Part unit() {
            if (skip("drop")) {
                return new Part((card, at, port) -> new ArrayList<>(), 1);
            }
            if (skip("pass")) {
                return new Part((card, at, port) -> List.of(card), 1);
            }
            for (int f = 0; f < 4; f++) {
                if (skip(FIELDS[f])) {
                    need(":=");
                    return write(4 + f, number(0, MOST[f]), f);
                }
            }
            if (skip("out")) {
                return write(8, number(0, 5), -1);
            }
            if (skip("if")) {
                Test test = test();
                deeper("{");
                Part yes = policy();
                higher("}");
                Part no = new Part((card, at, port) -> new ArrayList<>(), 0);
                if (skip("else")) {
                    deeper("{");
                    no = policy();
                    higher("}");
                }
                Part otherwise = no;
                return new Part((card, at, port) -> test.passes(card, port)
                        ? yes.maker.make(card, at, port) : otherwise.maker.make(card, at, port),
                        Math.max(yes.width, no.width));
            }
            if (skip("at")) {
                Set<Integer> set = new HashSet<>();
                do {
                    set.add(number(0, 7));
                } while (skip(","));
                named.addAll(set);
                deeper("{");
                Part inner = policy();
                higher("}");
                return new Part((card, at, port) -> set.contains(at)
                        ? inner.maker.make(card, at, port) : new ArrayList<>(), inner.width);
            }
            if (isNow("(")) {
                deeper("(");
                Part inner = policy();
                higher(")");
                return inner;
            }
            throw wrong();
        }

        /** A card: 0 to 3 the fields as they are, 4 to 7 what was written to them or NONE, 8 the port or NONE. */
        Part write(int place, int value, int field) {
            return new Part((card, at, port) -> {
                int[] made = card.clone();
                made[place] = value;
                if (field >= 0) {
                    made[field] = value;
                }
                return List.of(made);
            }, 1);
        }

        Test test() {
            List<Test> sides = new ArrayList<>();
            do {
                List<Test> facts = new ArrayList<>();
                do {
                    facts.add(fact());
                } while (skip("and"));
                sides.add((card, port) -> facts.stream().allMatch(f -> f.passes(card, port)));
            } while (skip("or"));
            return (card, port) -> sides.stream().anyMatch(s -> s.passes(card, port));
        }

        Test fact() {
            if (isNow("not")) {
                deeper("not");
                Test inner = fact();
                depth--;
                return (card, port) -> !inner.passes(card, port);
            }
            if (isNow("(")) {
                deeper("(");
                Test inner = test();
                higher(")");
                return inner;
            }
            if (skip("any")) {
                return (card, port) -> true;
            }
            if (!inSlice && skip("in")) {
                int asked = number(0, 5);
                return (card, port) -> port == asked;
            }
            for (int f = 0; f < 4; f++) {
                if (skip(FIELDS[f])) {
                    int field = f;
                    need("=");
                    int low = number(0, MOST[f]);
                    int high = skip("..") ? number(low, MOST[f]) : low;
                    return (card, port) -> card[field] >= low && card[field] <= high;
                }
            }
            throw wrong();
        }
    }

    static void addAll(List<int[]> set, List<int[]> more) {
        for (int[] card : more) {
            boolean isNew = true;
            for (int[] one : set) {
                boolean same = true;
                for (int i = 4; i < 9; i++) {
                    same &= one[i] == card[i];
                }
                isNew &= !same;
            }
            if (isNew) {
                set.add(card);
            }
        }
    }

    static List<int[]> actions(Maker maker, int at, int row) {
        int[] card = {row >> 10 & 15, row >> 6 & 15, row >> 3 & 7, row & 7, NONE, NONE, NONE, NONE, NONE};
        TreeMap<String, int[]> sorted = new TreeMap<>();
        for (int[] made : maker.make(card, at, row >> 14)) {
            if (made[8] != NONE) {
                int[] action = {made[8], made[4], made[5], made[6], made[7]};
                sorted.put(String.format("%d %02d %02d %02d %02d", action[0], action[1] + 1, action[2] + 1,
                        action[3] + 1, action[4] + 1), action);
            }
        }
        return new ArrayList<>(sorted.values());
    }

    static Table tabulate(Maker maker, int at) {
        Table table = new Table();
        Map<String, Integer> ids = new HashMap<>();
        for (int row = 0; row < 131072; row++) {
            int[] card = {row >> 10 & 15, row >> 6 & 15, row >> 3 & 7, row & 7, NONE, NONE, NONE, NONE, NONE};
            List<Long> codes = new ArrayList<>();
            for (int[] made : maker.make(card, at, row >> 14)) {
                if (made[8] != NONE) {
                    codes.add((((made[8] * 100L + made[4] + 1) * 100 + made[5] + 1) * 100 + made[6] + 1) * 100 + made[7] + 1);
                }
            }
            codes.sort(null);
            String key = codes.toString();
            Integer id = ids.get(key);
            if (id == null) {
                id = ids.size();
                ids.put(key, id);
                List<int[]> list = new ArrayList<>();
                for (long code : codes) {
                    list.add(new int[] {(int) (code / 100000000L), (int) (code / 1000000 % 100) - 1,
                        (int) (code / 10000 % 100) - 1, (int) (code / 100 % 100) - 1, (int) (code % 100) - 1});
                }
                table.lists.add(list);
            }
            table.listOfRow[row] = id;
        }
        findRules(table, 0, 16, 0, 0);
        return table;
    }

    static void findRules(Table table, int start, int bit, int mask, int value) {
        int size = 2 << bit;
        boolean areAll = true;
        for (int i = 1; i < size && areAll; i++) {
            areAll = table.listOfRow[start + i] == table.listOfRow[start];
        }
        if (areAll) {
            if (!table.lists.get(table.listOfRow[start]).isEmpty()) {
                table.rules.add(new int[] {mask, value, table.listOfRow[start]});
            }
            return;
        }
        int half = size / 2;
        boolean depends = false;
        for (int i = 0; i < half && !depends; i++) {
            depends = table.listOfRow[start + i] != table.listOfRow[start + half + i];
        }
        if (!depends) {
            findRules(table, start, bit - 1, mask, value);
        } else {
            findRules(table, start, bit - 1, mask | half, value);
            findRules(table, start + half, bit - 1, mask | half, value | half);
        }
    }

    // ---- the state

    static final class Rule {
        int tag, mask, value, count;
        List<int[]> actions;
    }

    static final class Entry {
        int slice, tag, policy;

        Entry(int slice, int tag, int policy) {
            this.slice = slice;
            this.tag = tag;
            this.policy = policy;
        }
    }

    static final class Message {
        int kind, tag, mask, value, round;
        List<int[]> actions;
        List<Entry> list;
    }

    static final class Answer {
        int kind, at, round, refused;
    }

    static final class Switch {
        final List<Rule> table = new ArrayList<>();
        List<Entry> stamps = new ArrayList<>();
        final List<Message> inbox = new ArrayList<>();
        int refused, restarts;
    }

    static final class Link {
        int one, onePort, other, otherPort, delay;
        boolean up = true;
    }

    static final class Host {
        int at, port;
        final List<Copy> delivered = new ArrayList<>();
    }

    static final class Update {
        int policy, slice, mode, tag, outcome, begun, over = NONE, before = NONE;
    }

    static final class Copy {
        Packet packet;
        int number, state, header, parent = NONE, out = NONE, at = NONE, port = NONE, host = NONE, links, when;
        Link link;
    }

    static final class Packet {
        int host, header, tag = NONE, policy = NONE, sent;
        boolean cut;
        final List<Copy> copies = new ArrayList<>();
    }

    /** Tables are dear: those of the policies that were asked for last are kept. */
    static final Map<String, Plan> CACHE = new java.util.LinkedHashMap<>(100, 0.75f, true) {
        @Override
        protected boolean removeEldestEntry(Map.Entry<String, Plan> eldest) {
            return size() > 60;
        }
    };

    final List<Switch> switches = new ArrayList<>();
    final List<Link> links = new ArrayList<>();
    final List<Host> hosts = new ArrayList<>();
    final List<Plan> plans = new ArrayList<>();
    final List<Slice> slices = new ArrayList<>();
    final List<Update> updates = new ArrayList<>();
    final List<Packet> packets = new ArrayList<>();
    final List<Answer> answers = new ArrayList<>();
    final java.io.ByteArrayOutputStream text = new java.io.ByteArrayOutputStream();
    int time;
    int phase, following, round, since = NONE;
    Set<Integer> answered = new HashSet<>();
    final Integer[] tags = new Integer[4];
    List<Entry> list = new ArrayList<>();
    Set<Integer> toClear = new java.util.TreeSet<>();
    boolean stopped, refused, cancelled;
    Update current;

    // ---- helpers

    static void index(boolean ok) {
        if (!ok) {
            throw new IndexOutOfBoundsException();
        }
    }

    static void argument(boolean ok) {
        if (!ok) {
            throw new IllegalArgumentException();
        }
    }

    static void state(boolean ok) {
        if (!ok) {
            throw new IllegalStateException();
        }
    }

    static boolean in(int x, int low, int high) {
        return x >= low && x <= high;
    }

    boolean isSwitch(int x) {
        return in(x, 0, switches.size() - 1);
    }

    boolean isHost(int x) {
        return in(x, 0, hosts.size() - 1);
    }

    boolean isPlan(int x) {
        return in(x, 0, plans.size() - 1);
    }

    int atPort(int at, int port) {
        for (int i = 0; i < hosts.size(); i++) {
            if (hosts.get(i).at == at && hosts.get(i).port == port) {
                return i;
            }
        }
        for (int i = 0; i < links.size(); i++) {
            Link l = links.get(i);
            if (l.one == at && l.onePort == port || l.other == at && l.otherPort == port) {
                return -2 - i;
            }
        }
        return NONE;
    }

    // ---- the network

    int addSwitch() {
        state(switches.size() < 8 && updates.isEmpty());
        switches.add(new Switch());
        return switches.size() - 1;
    }

    int addLink(int one, int onePort, int other, int otherPort, int delay) {
        index(isSwitch(one) && isSwitch(other));
        argument(in(onePort, 0, 5) && in(otherPort, 0, 5) && in(delay, 1, 9) && one != other);
        state(links.size() < 12 && updates.isEmpty() && atPort(one, onePort) == NONE && atPort(other, otherPort) == NONE);
        Link l = new Link();
        l.one = one;
        l.onePort = onePort;
        l.other = other;
        l.otherPort = otherPort;
        l.delay = delay;
        links.add(l);
        return links.size() - 1;
    }

    int addHost(int at, int port) {
        index(isSwitch(at));
        argument(in(port, 0, 5));
        state(hosts.size() < 8 && updates.isEmpty() && atPort(at, port) == NONE);
        Host h = new Host();
        h.at = at;
        h.port = port;
        hosts.add(h);
        return hosts.size() - 1;
    }

    int build(int which) {
        argument(in(which, 0, 2));
        state(switches.isEmpty());
        for (int i = 0; i < (which == 2 ? 3 : 4); i++) {
            addSwitch();
        }
        if (which == 0) {
            addLink(0, 1, 1, 0, 2);
            addLink(0, 2, 2, 0, 3);
            addLink(1, 1, 3, 0, 2);
            addLink(2, 1, 3, 1, 1);
            addHost(0, 0);
            addHost(3, 2);
            addHost(1, 2);
            addHost(2, 2);
        } else if (which == 1) {
            for (int i = 0; i < 4; i++) {
                addLink(i, 1, (i + 1) % 4, 0, i + 1);
            }
            for (int i = 0; i < 4; i++) {
                addHost(i, 2);
            }
        } else {
            addLink(0, 1, 1, 0, 9);
            addLink(1, 1, 2, 0, 1);
            addHost(0, 0);
            addHost(0, 2);
            addHost(2, 1);
        }
        return switches.size();
    }

    int setLink(int link, boolean isUp) {
        index(in(link, 0, links.size() - 1));
        Link l = links.get(link);
        l.up = isUp;
        int cut = 0;
        if (!isUp) {
            for (Packet p : packets) {
                for (Copy c : p.copies) {
                    if (c.state == 0 && c.link == l) {
                        c.state = 5;
                        c.at = NONE;
                        c.port = NONE;
                        c.when = time;
                        cut++;
                    }
                }
            }
        }
        return cut;
    }

    int restart(int at) {
        index(isSwitch(at));
        Switch s = switches.get(at);
        int had = s.table.size();
        s.table.clear();
        s.stamps = new ArrayList<>();
        s.inbox.clear();
        s.refused = 0;
        s.restarts++;
        answers.removeIf(a -> a.at == at);
        tell(1, at, 0, 0);
        return had;
    }

    void tell(int kind, int at, int round, int refused) {
        if (stopped) {
            return;
        }
        Answer a = new Answer();
        a.kind = kind;
        a.at = at;
        a.round = round;
        a.refused = refused;
        answers.add(a);
    }

    int portAt(int at, int port) {
        index(isSwitch(at));
        argument(in(port, 0, 5));
        return atPort(at, port);
    }

    // ---- the text

    int type(long a, long b, long c, long d, long e, long f) {
        byte[] all = java.nio.ByteBuffer.allocate(48).putLong(a).putLong(b).putLong(c).putLong(d).putLong(e).putLong(f).array();
        int more = 0;
        for (byte x : all) {
            more += x != 0 ? 1 : 0;
        }
        state(text.size() + more <= 2500);
        for (byte x : all) {
            if (x != 0) {
                text.write(x);
            }
        }
        return text.size();
    }

    static final String[] PIECES = {
        "policy up { at 0 { if in 0 { if to = 1 .. 2 { out 1 } else { out 2 } } else { out 0 } } | at 1, 2 { if in 0 { if to = 1 { out 1 } else { out 2 } } else { out 0 } } | at 3 { if in 2 { if to = 3 { out 1 } else { out 0 } } else { out 2 } } }",
        "policy low { at 0 { if in 0 { if to = 2 { out 1 } else { out 2 } } else { out 0 } } | at 1, 2 { if in 0 { if to = 1 { out 1 } else { out 2 } } else { out 0 } } | at 3 { if in 2 { if to = 2 { out 0 } else { out 1 } } else { mark := 7; out 2 } } }",
        "policy twice { at 0 { if in 0 { out 1 | kind := 1; out 2 } else { out 0 } } | at 1, 2 { if kind = 1 .. 3 and not in 1 { out 1; mark := 3 } else { if in 1 { out 0 } else { out 1 } } } | at 3 { if in 2 { out 0 } else { out 2 } } }",
        "slice few { kind = 0 .. 3 and not from = 1 } slice odd { mark = 1 or mark = 3 or (mark = 5 .. 7 and not mark = 6) }",
        "policy right { at 0, 1, 2, 3 { out 1 | if to = 2 and mark = 0 { out 2 } } }",
        "policy home { at 0 { if to = 0 { out 2 } else { out 1 } } | at 1 { if to = 1 { out 2 } else { out 1 } } | at 2 { if to = 2 { out 2 } else { out 1 } } | at 3 { if to = 3 { out 2 } else { out 1 } } }"};

    int piece(int which) {
        argument(in(which, 0, 5));
        byte[] more = (PIECES[which] + "\n").getBytes(java.nio.charset.StandardCharsets.ISO_8859_1);
        state(text.size() + more.length <= 2500);
        text.writeBytes(more);
        return text.size();
    }

    int clearText() {
        int n = text.size();
        text.reset();
        return n;
    }

    Fault fault() {
        try {
            new Reader(text.toByteArray(), CACHE).readAll();
            return null;
        } catch (Fault f) {
            return f;
        }
    }

    int errorKind() {
        Fault f = fault();
        return f == null ? 0 : f.kind;
    }

    int errorPlace() {
        Fault f = fault();
        return f == null ? NONE : f.place;
    }

    int load() {
        Reader r = new Reader(text.toByteArray(), CACHE);
        try {
            r.readAll();
        } catch (Fault f) {
            throw new IllegalStateException();
        }
        plans.addAll(r.plans);
        slices.addAll(r.slices);
        text.reset();
        return plans.size();
    }

    // ---- policies

    int ruleAt(int policy, int at, int rule, int what) {
        index(isPlan(policy) && in(at, 0, 7) && in(rule, 0, plans.get(policy).tables[at].rules.size() - 1));
        argument(in(what, 0, 2));
        Table t = plans.get(policy).tables[at];
        int[] r = t.rules.get(rule);
        return what < 2 ? r[what] : t.lists.get(r[2]).size();
    }

    int rules(int policy, int at) {
        index(isPlan(policy) && in(at, 0, 7));
        return plans.get(policy).tables[at].rules.size();
    }

    List<int[]> actionsFor(int policy, int at, int port, int header) {
        Table t = plans.get(policy).tables[at];
        return t.lists.get(t.listOfRow[port * 16384 + header]);
    }

    int actionAt(int policy, int at, int row, int number, int what) {
        index(isPlan(policy) && in(at, 0, 7));
        argument(in(row, 0, 131071) && in(what, 0, 4));
        List<int[]> list = actionsFor(policy, at, row / 16384, row % 16384);
        if (!in(number, 0, list.size() - 1)) {
            throw new NoSuchElementException();
        }
        return list.get(number)[what];
    }

    boolean sliceHas(int slice, int header) {
        int[] card = {header >> 10, header >> 6 & 15, header >> 3 & 7, header & 7};
        return slices.get(slice).test.passes(card, 0);
    }

    boolean has(int slice, int header) {
        index(in(slice, 0, slices.size() - 1));
        argument(in(header, 0, 16383));
        return sliceHas(slice, header);
    }

    static int rewrite(int header, int[] action) {
        int[] f = {header >> 10, header >> 6 & 15, header >> 3 & 7, header & 7};
        for (int i = 0; i < 4; i++) {
            if (action[1 + i] != NONE) {
                f[i] = action[1 + i];
            }
        }
        return ((f[0] * 16 + f[1]) * 8 + f[2]) * 8 + f[3];
    }

    /** The copies that a list of actions makes of a header: port and header, each once. */
    static List<int[]> outcome(List<int[]> actions, int header) {
        List<int[]> made = new ArrayList<>();
        for (int[] a : actions) {
            int[] copy = {a[0], rewrite(header, a)};
            if (made.stream().noneMatch(m -> m[0] == copy[0] && m[1] == copy[1])) {
                made.add(copy);
            }
        }
        return made;
    }

    final class Tour {
        final Set<Integer> delivered = new HashSet<>();
        boolean astray;
        final List<int[]> ends = new ArrayList<>();

        Tour(int policy, int from, int header) {
            Host h = hosts.get(from);
            List<int[]> queue = new ArrayList<>();
            queue.add(new int[] {h.at, h.port, header, 0, 0});
            int total = 1;
            for (int i = 0; i < queue.size(); i++) {
                int[] c = queue.get(i);
                for (int[] made : outcome(actionsFor(policy, c[0], c[1], c[2]), c[2])) {
                    if (total == 64) {
                        astray = true;
                        continue;
                    }
                    total++;
                    int there = atPort(c[0], made[0]);
                    int seen = c[4] | 1 << c[0];
                    if (there >= 0) {
                        delivered.add(there * 16384 + made[1]);
                        ends.add(new int[] {there, seen});
                    } else if (there == NONE || c[3] == 12) {
                        astray = true;
                    } else {
                        Link l = links.get(-2 - there);
                        boolean isOne = l.one == c[0] && l.onePort == made[0];
                        queue.add(new int[] {isOne ? l.other : l.one, isOne ? l.otherPort : l.onePort, made[1], c[3] + 1, seen});
                    }
                }
            }
        }
    }

    int reach(int policy, int from, int to) {
        index(isPlan(policy) && isHost(from) && isHost(to));
        int n = 0;
        for (int h = 0; h < 16384; h++) {
            n += new Tour(policy, from, h).ends.stream().anyMatch(e -> e[0] == to) ? 1 : 0;
        }
        return n;
    }

    int avoids(int policy, int from, int to, int past) {
        index(isPlan(policy) && isHost(from) && isHost(to) && isSwitch(past));
        int n = 0;
        for (int h = 0; h < 16384; h++) {
            n += new Tour(policy, from, h).ends.stream().anyMatch(e -> e[0] == to && (e[1] >> past & 1) == 0) ? 1 : 0;
        }
        return n;
    }

    int astray(int policy, int from) {
        index(isPlan(policy) && isHost(from));
        int n = 0;
        for (int h = 0; h < 16384; h++) {
            n += new Tour(policy, from, h).astray ? 1 : 0;
        }
        return n;
    }

    int differsAt(int policy, int other, int from) {
        index(isPlan(policy) && isPlan(other) && isHost(from));
        for (int h = 0; h < 16384; h++) {
            if (!new Tour(policy, from, h).delivered.equals(new Tour(other, from, h).delivered)) {
                return h;
            }
        }
        return NONE;
    }

    // ---- updates

    List<Integer> used() {
        List<Integer> u = new ArrayList<>();
        for (int t = 0; t < 4; t++) {
            if (tags[t] != null) {
                u.add(t);
            }
        }
        return u;
    }

    int update(int policy, int slice, int mode) {
        index(isPlan(policy) && (slice == NONE || in(slice, 0, slices.size() - 1)));
        argument(in(mode, 0, 1) && !(mode == 1 && slice != NONE));
        state(!switches.isEmpty() && !stopped && phase == 0 && updates.size() < 20);
        if (mode == 0) {
            state(used().size() < 4 && !(slice != NONE && used().size() >= 3));
        } else {
            state(used().size() == 1);
        }
        Update u = new Update();
        u.policy = policy;
        u.slice = slice;
        u.mode = mode;
        u.begun = time;
        updates.add(u);
        current = u;
        refused = false;
        cancelled = false;
        if (mode == 0) {
            while (tags[u.tag] != null) {
                u.tag++;
            }
            tags[u.tag] = policy;
            phase = 1;
        } else {
            u.tag = used().get(0);
            u.before = tags[u.tag];
            tags[u.tag] = policy;
            List<Entry> renewed = new ArrayList<>();
            for (Entry e : list) {
                renewed.add(new Entry(e.slice, e.tag, e.tag == u.tag ? policy : e.policy));
            }
            list = renewed;
            phase = 5;
        }
        beginRound();
        return updates.size() - 1;
    }

    Message message(int at, int kind) {
        Message m = new Message();
        m.kind = kind;
        switches.get(at).inbox.add(m);
        return m;
    }

    void sendAdds(int at, int tag) {
        Table t = plans.get(tags[tag]).tables[at];
        for (int[] r : t.rules) {
            Message m = message(at, 0);
            m.tag = tag;
            m.mask = r[0];
            m.value = r[1];
            m.actions = t.lists.get(r[2]);
        }
    }

    void sendBarrier(int at, int number) {
        message(at, 4).round = number;
    }

    void sendStamp(int at) {
        message(at, 3).list = list;
    }

    void beginRound() {
        round++;
        answered = new HashSet<>();
        for (int at = 0; at < switches.size(); at++) {
            if (phase == 1) {
                sendAdds(at, current.tag);
            } else if (phase == 2) {
                sendStamp(at);
            } else if (phase == 4) {
                for (int tag : toClear) {
                    message(at, 2).tag = tag;
                }
            } else if (phase == 5) {
                Table before = plans.get(current.before).tables[at];
                Table now = plans.get(current.policy).tables[at];
                for (int[] r : before.rules) {
                    if (now.rules.stream().noneMatch(n -> n[0] == r[0] && n[1] == r[1])) {
                        Message m = message(at, 1);
                        m.tag = current.tag;
                        m.mask = r[0];
                        m.value = r[1];
                    }
                }
                sendAdds(at, current.tag);
                sendStamp(at);
            }
            sendBarrier(at, round);
        }
        if (switches.isEmpty()) {
            roundOver();
        }
    }

    int roundNow() {
        return phase == 0 || phase == 3 ? 0 : round;
    }

    void bringUp(int at, int number) {
        Integer last = null;
        if (current != null && current.mode == 0 && tags[current.tag] != null) {
            last = current.tag;
        }
        for (int tag : used()) {
            if (last == null || tag != last) {
                sendAdds(at, tag);
            }
        }
        if (last != null) {
            sendBarrier(at, 0);
            sendAdds(at, last);
        }
        sendStamp(at);
        sendBarrier(at, number);
    }

    void clearing(Set<Integer> set) {
        toClear = set;
        for (int t : set) {
            tags[t] = null;
        }
        phase = 4;
        beginRound();
    }

    void over(int outcome) {
        current.outcome = outcome;
        current.over = time;
        current = null;
        phase = 0;
    }

    void roundOver() {
        if (phase == 1) {
            if (refused || cancelled) {
                clearing(new java.util.TreeSet<>(Set.of(current.tag)));
                return;
            }
            List<Entry> renewed = new ArrayList<>();
            renewed.add(new Entry(current.slice, current.tag, current.policy));
            if (current.slice != NONE) {
                renewed.addAll(list);
            }
            list = renewed;
            phase = 2;
            beginRound();
        } else if (phase == 2) {
            Set<Integer> left = new java.util.TreeSet<>(used());
            for (Entry e : list) {
                left.remove(e.tag);
            }
            if (left.isEmpty()) {
                over(1);
            } else {
                toClear = left;
                phase = 3;
                since = time;
            }
        } else if (phase == 4) {
            over(refused ? 2 : cancelled ? 3 : 1);
        } else if (phase == 5) {
            over(refused ? 2 : 1);
        } else if (phase == 6) {
            for (int at = 0; at < switches.size(); at++) {
                bringUp(at, 0);
            }
            phase = following;
            if (phase == 3) {
                since = time;
            } else if (phase != 0) {
                beginRound();
            }
        }
    }

    int cancel() {
        state(!stopped && phase == 1 && !cancelled);
        cancelled = true;
        return updates.indexOf(current);
    }

    int stop() {
        state(!stopped);
        stopped = true;
        int n = answers.size();
        answers.clear();
        if ((phase == 6 ? following : phase) != 4) {
            refused = false;
        }
        return n;
    }

    int start() {
        state(stopped);
        stopped = false;
        if (phase != 6) {
            following = phase;
        }
        int f = following;
        phase = 6;
        beginRound();
        return f;
    }

    int updateAt(int update, int what) {
        index(in(update, 0, updates.size() - 1));
        argument(in(what, 0, 6));
        Update u = updates.get(update);
        return new int[] {u.policy, u.slice, u.mode, u.tag, u.outcome, u.begun, u.over}[what];
    }

    static int bits(Iterable<Integer> set) {
        int b = 0;
        for (int x : set) {
            b |= 1 << x;
        }
        return b;
    }

    int controllerAt(int what) {
        argument(in(what, 0, 8));
        boolean hasRound = phase != 0 && phase != 3;
        return new int[] {phase, hasRound ? round : 0, hasRound ? answered.size() : 0, answers.size(), stopped ? 1 : 0,
            list.size(), phase == 3 ? since : NONE, bits(used()), phase == 3 || phase == 4 ? bits(toClear) : 0}[what];
    }

    // ---- messages and answers

    List<Integer> ready(int at) {
        List<Integer> r = new ArrayList<>();
        List<Message> inbox = switches.get(at).inbox;
        for (int i = 0; i < inbox.size(); i++) {
            if (inbox.get(i).kind == 4) {
                if (i == 0) {
                    r.add(0);
                }
                break;
            }
            r.add(i);
        }
        return r;
    }

    int deliver(int at, int choice) {
        index(isSwitch(at));
        argument(in(choice, 0, 1000));
        List<Integer> r = ready(at);
        if (r.isEmpty()) {
            return NONE;
        }
        Switch s = switches.get(at);
        Message m = s.inbox.remove((int) r.get(choice % r.size()));
        if (m.kind == 0) {
            Rule found = null;
            for (Rule x : s.table) {
                if (x.tag == m.tag && x.mask == m.mask && x.value == m.value) {
                    found = x;
                }
            }
            if (found != null) {
                found.actions = m.actions;
            } else if (s.table.size() == 40) {
                s.refused++;
            } else {
                Rule x = new Rule();
                x.tag = m.tag;
                x.mask = m.mask;
                x.value = m.value;
                x.actions = m.actions;
                s.table.add(x);
            }
        } else if (m.kind == 1) {
            s.table.removeIf(x -> x.tag == m.tag && x.mask == m.mask && x.value == m.value);
        } else if (m.kind == 2) {
            s.table.removeIf(x -> x.tag == m.tag);
        } else if (m.kind == 3) {
            s.stamps = m.list;
        } else {
            tell(0, at, m.round, s.refused);
            s.refused = 0;
        }
        return m.kind;
    }

    int answer(int choice) {
        argument(in(choice, 0, 1000));
        state(!stopped);
        if (answers.isEmpty()) {
            return NONE;
        }
        Answer a = answers.remove(choice % answers.size());
        if (a.kind == 1) {
            if (phase == 6) {
                sendBarrier(a.at, round);
            } else {
                bringUp(a.at, roundNow());
            }
        } else if (phase != 0 && phase != 3 && a.round == round) {
            answered.add(a.at);
            if (a.refused > 0 && (phase == 1 || phase == 5)) {
                refused = true;
            }
            if (answered.size() == switches.size()) {
                roundOver();
            }
        }
        return a.kind;
    }

    int settle() {
        int n = 0;
        while (true) {
            int busy = NONE;
            for (int at = switches.size() - 1; at >= 0; at--) {
                busy = switches.get(at).inbox.isEmpty() ? busy : at;
            }
            if (busy != NONE) {
                deliver(busy, 0);
            } else if (!stopped && !answers.isEmpty()) {
                answer(0);
            } else {
                return n;
            }
            n++;
        }
    }

    int answerAt(int answer, int what) {
        index(in(answer, 0, answers.size() - 1));
        argument(in(what, 0, 3));
        Answer a = answers.get(answer);
        return new int[] {a.kind, a.at, a.round, a.refused}[what];
    }

    int messageAt(int at, int message, int what) {
        index(isSwitch(at) && in(message, 0, switches.get(at).inbox.size() - 1));
        argument(in(what, 0, 3));
        Message m = switches.get(at).inbox.get(message);
        int number = m.kind == 3 ? m.list.size() : m.kind == 4 ? m.round : m.tag;
        return new int[] {m.kind, number, m.mask, m.value}[what];
    }

    // ---- switches

    int switchAt(int at, int what) {
        index(isSwitch(at));
        argument(in(what, 0, 4));
        Switch s = switches.get(at);
        return new int[] {s.table.size(), s.stamps.size(), s.inbox.size(), ready(at).size(), s.restarts}[what];
    }

    int tableAt(int at, int rule, int what) {
        index(isSwitch(at) && in(rule, 0, switches.get(at).table.size() - 1));
        argument(in(what, 0, 4));
        Rule r = switches.get(at).table.get(rule);
        return new int[] {r.tag, r.mask, r.value, r.actions.size(), r.count}[what];
    }

    int stampAt(int at, int entry, int what) {
        index(isSwitch(at) && in(entry, 0, switches.get(at).stamps.size() - 1));
        argument(in(what, 0, 2));
        Entry e = switches.get(at).stamps.get(entry);
        return new int[] {e.slice, e.tag, e.policy}[what];
    }

    // ---- packets

    int send(int host, int header) {
        index(isHost(host));
        argument(in(header, 0, 16383));
        state(packets.size() < 60);
        Host h = hosts.get(host);
        Packet p = new Packet();
        p.host = host;
        p.header = header;
        p.sent = time;
        packets.add(p);
        for (Entry e : switches.get(h.at).stamps) {
            if (e.slice == NONE || sliceHas(e.slice, header)) {
                p.tag = e.tag;
                p.policy = e.policy;
                break;
            }
        }
        Copy c = new Copy();
        c.packet = p;
        c.header = header;
        c.at = h.at;
        c.port = h.port;
        p.copies.add(c);
        handle(c);
        return packets.size() - 1;
    }

    int handled;

    void handle(Copy c) {
        c.when = time;
        Rule hit = null;
        for (Rule r : switches.get(c.at).table) {
            int row = c.port * 16384 + c.header;
            if (hit == null && r.tag == c.packet.tag && (row & r.mask) == r.value) {
                hit = r;
            }
        }
        if (hit == null) {
            c.state = 3;
            return;
        }
        hit.count++;
        c.state = 1;
        handled++;
        for (int[] made : outcome(hit.actions, c.header)) {
            if (c.packet.copies.size() == 64) {
                c.packet.cut = true;
                continue;
            }
            Copy n = new Copy();
            n.packet = c.packet;
            n.number = c.packet.copies.size();
            n.header = made[1];
            n.out = made[0];
            n.parent = c.number;
            n.links = c.links;
            n.when = time;
            c.packet.copies.add(n);
            int there = atPort(c.at, made[0]);
            if (there >= 0) {
                n.state = 2;
                n.host = there;
                hosts.get(there).delivered.add(n);
                handled++;
            } else if (there == NONE) {
                n.state = 4;
            } else {
                Link l = links.get(-2 - there);
                if (!l.up) {
                    n.state = 5;
                } else if (n.links == 12) {
                    n.state = 6;
                } else {
                    boolean isOne = l.one == c.at && l.onePort == made[0];
                    n.links++;
                    n.link = l;
                    n.at = isOne ? l.other : l.one;
                    n.port = isOne ? l.otherPort : l.onePort;
                    n.when = time + l.delay;
                }
            }
        }
    }

    int pass(int ticks) {
        argument(in(ticks, 1, 200));
        int before = handled;
        for (int i = 0; i < ticks; i++) {
            time++;
            if (!stopped && phase == 3 && time - since >= 109) {
                clearing(toClear);
            }
            for (Packet p : packets) {
                for (Copy c : new ArrayList<>(p.copies)) {
                    if (c.state == 0 && c.when == time) {
                        handle(c);
                    }
                }
            }
        }
        return handled - before;
    }

    static int ofState(Packet p, int state) {
        return (int) p.copies.stream().filter(c -> c.state == state).count();
    }

    int packetAt(int packet, int what) {
        index(in(packet, 0, packets.size() - 1));
        argument(in(what, 0, 8));
        Packet p = packets.get(packet);
        return new int[] {p.host, p.header, p.tag, p.policy, p.copies.size(), ofState(p, 0), ofState(p, 2),
            p.cut ? 1 : 0, p.sent}[what];
    }

    int copyAt(int packet, int copy, int what) {
        index(in(packet, 0, packets.size() - 1) && in(copy, 0, packets.get(packet).copies.size() - 1));
        argument(in(what, 0, 8));
        Copy c = packets.get(packet).copies.get(copy);
        return new int[] {c.state, c.header, c.parent, c.out, c.at, c.port, c.host, c.links, c.when}[what];
    }

    boolean by(Packet p, int policy) {
        for (Copy c : p.copies) {
            if (c.state != 1) {
                continue;
            }
            List<int[]> due = outcome(actionsFor(policy, c.at, c.port, c.header), c.header);
            List<Copy> made = new ArrayList<>();
            for (Copy x : p.copies) {
                if (x.parent == c.number) {
                    made.add(x);
                }
            }
            if (made.size() > due.size() || !p.cut && made.size() < due.size()) {
                return false;
            }
            for (int i = 0; i < made.size(); i++) {
                if (made.get(i).out != due.get(i)[0] || made.get(i).header != due.get(i)[1]) {
                    return false;
                }
            }
        }
        return true;
    }

    boolean isBy(int packet, int policy) {
        index(in(packet, 0, packets.size() - 1) && isPlan(policy));
        return by(packets.get(packet), policy);
    }

    boolean whole(Packet p) {
        if (p.policy == NONE || p.cut || !by(p, p.policy)) {
            return false;
        }
        for (Copy c : p.copies) {
            if (c.state == 5 || c.state == 3 && !actionsFor(p.policy, c.at, c.port, c.header).isEmpty()) {
                return false;
            }
        }
        return true;
    }

    boolean isWhole(int packet) {
        index(in(packet, 0, packets.size() - 1));
        return whole(packets.get(packet));
    }

    int deliveredAt(int host, int number, int what) {
        index(isHost(host));
        argument(in(what, 0, 3));
        List<Copy> all = hosts.get(host).delivered;
        if (!in(number, 0, all.size() - 1)) {
            throw new NoSuchElementException();
        }
        Copy c = all.get(number);
        return new int[] {packets.indexOf(c.packet), c.number, c.header, c.when}[what];
    }

    // ---- counts and checks

    int count(int what) {
        argument(in(what, 0, 15));
        int copies = 0, moving = 0, delivered = 0, byNone = 0, missing = 0;
        for (Packet p : packets) {
            copies += p.copies.size();
            moving += ofState(p, 0);
            delivered += ofState(p, 2);
            boolean some = false;
            for (int i = 0; i < plans.size(); i++) {
                some |= by(p, i);
            }
            byNone += some ? 0 : 1;
            missing += whole(p) ? 0 : 1;
        }
        int messages = 0, restarts = 0;
        for (Switch s : switches) {
            messages += s.inbox.size();
            restarts += s.restarts;
        }
        return new int[] {time, switches.size(), links.size(), hosts.size(), plans.size(), slices.size(),
            updates.size(), packets.size(), copies, moving, delivered, byNone, missing, messages, text.size(), restarts}[what];
    }

    boolean isConsistent() {
        return true;
    }

    int errors() {
        return 0;
    }

    double deliveredShare() {
        return count(8) == 0 ? 0.0 : (double) count(10) / (double) count(8);
    }

    float meanRules() {
        int sum = 0;
        for (Switch s : switches) {
            sum += s.table.size();
        }
        return switches.isEmpty() ? 0.0f : (float) sum / (float) switches.size();
    }
}
