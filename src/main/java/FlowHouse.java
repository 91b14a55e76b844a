import java.util.Arrays;
import java.util.NoSuchElementException;

/** A network of switches, and the controller that changes their rules while packets are under way. */
public final class FlowHouse {
    public static final int NONE = -1;
    public static final int UNDER_WAY = 0, HANDLED = 1, DELIVERED = 2, DROPPED = 3, LOST = 4, CUT = 5, EXPIRED = 6;
    public static final int ADD = 0, REMOVE = 1, CLEAR = 2, STAMP = 3, BARRIER = 4;
    public static final int DONE = 0, HELLO = 1;
    public static final int IDLE = 0, ADDING = 1, STAMPING = 2, WAITING = 3, CLEARING = 4, CHANGING = 5, ASKING = 6;
    public static final int GOES_ON = 0, ENDED = 1, WAS_REFUSED = 2, WAS_CANCELLED = 3;

    private static final int MOST_SWITCHES = 8, PORTS = 6, MOST_LINKS = 12, MOST_HOSTS = 8, LONGEST_DELAY = 9;
    private static final int MOST_PACKETS = 60, MOST_COPIES = 64, LONGEST_WAY = 12;
    private static final int TAGS = 4, TABLE_ROOM = 40, MOST_UPDATES = 20, WAIT = 109;
    private static final int MOST_POLICIES = 6, MOST_RULES = 60, WIDEST = 8, DEEPEST = 20, TEXT_ROOM = 2500;
    private static final int HEADERS = 16384, HEADER_BITS = 14, ROWS = 131072, ROW_BITS = 17;
    private static final int MOST_CHOICE = 1000, MOST_TICKS = 200;
    /** No loop of this program needs as many steps; it bounds those for which the document tells no bound. */
    private static final int FAR = 1000000;

    /** The fields of a row, by number: the port, then the fields of the header. */
    private static final int PORT = 0, FIELDS = 5;
    private static final int[] ROW_SHIFT = {14, 10, 6, 3, 0};
    private static final int[] ROW_MOST = {7, 15, 15, 7, 7};
    private static final int[] FIRST_BIT = {0, 3, 7, 11, 14};

    private final Network network;
    private final Store store;
    private final Parser parser;
    private final Station[] stations;
    private final Controller controller;
    private final Traffic traffic;
    private final Walk walk;

    public FlowHouse() {
        network = new Network();
        store = new Store();
        parser = new Parser(store);
        stations = new Station[MOST_SWITCHES];
        for (int i = 0; i < stations.length; i++) {
            stations[i] = new Station(i, store);
        }
        controller = new Controller(network, store, stations);
        traffic = new Traffic(network, store, stations);
        walk = new Walk(network);
    }

    // ---- the network

    public int addSwitch() throws IllegalStateException {
        if (network.switches >= MOST_SWITCHES || controller.wasUsed()) {
            throw new IllegalStateException();
        }
        return network.switches++;
    }

    public int addLink(int one, int onePort, int other, int otherPort, int delay)
            throws IndexOutOfBoundsException, IllegalArgumentException, IllegalStateException {
        needSwitch(one);
        needSwitch(other);
        needWithin(onePort, PORTS - 1);
        needWithin(otherPort, PORTS - 1);
        needWithin(delay - 1, LONGEST_DELAY - 1);
        if (one == other) {
            throw new IllegalArgumentException();
        }
        int onePlace = Network.place(one, onePort);
        int otherPlace = Network.place(other, otherPort);
        if (network.links >= MOST_LINKS || controller.wasUsed()
                || network.useOf(onePlace) != NONE || network.useOf(otherPlace) != NONE) {
            throw new IllegalStateException();
        }
        return network.join(onePlace, otherPlace, delay);
    }

    public int addHost(int at, int port)
            throws IndexOutOfBoundsException, IllegalArgumentException, IllegalStateException {
        needSwitch(at);
        needWithin(port, PORTS - 1);
        int place = Network.place(at, port);
        if (network.hosts >= MOST_HOSTS || controller.wasUsed() || network.useOf(place) != NONE) {
            throw new IllegalStateException();
        }
        return network.house(place);
    }

    public int build(int which) throws IllegalArgumentException, IllegalStateException {
        needWithin(which, 2);
        if (network.switches > 0) {
            throw new IllegalStateException();
        }
        network.layOut(which);
        return network.switches;
    }

    public int setLink(int link, boolean isUp) throws IndexOutOfBoundsException {
        needIndex(link, network.links);
        network.turn(link, isUp);
        return isUp ? 0 : traffic.cutOn(link);
    }

    public int restart(int at) throws IndexOutOfBoundsException {
        int had = stationAt(at).reset();
        controller.greet(at);
        return had;
    }

    public int portAt(int at, int port) throws IndexOutOfBoundsException, IllegalArgumentException {
        needSwitch(at);
        needWithin(port, PORTS - 1);
        return network.useOf(Network.place(at, port));
    }

    // ---- the text

    public int type(long a, long b, long c, long d, long e, long f) throws IllegalStateException {
        int more = Parser.bytesIn(a) + Parser.bytesIn(b) + Parser.bytesIn(c)
                + Parser.bytesIn(d) + Parser.bytesIn(e) + Parser.bytesIn(f);
        if (parser.length + more > TEXT_ROOM) {
            throw new IllegalStateException();
        }
        parser.putBytes(a);
        parser.putBytes(b);
        parser.putBytes(c);
        parser.putBytes(d);
        parser.putBytes(e);
        parser.putBytes(f);
        return parser.length;
    }

    public int piece(int which) throws IllegalArgumentException, IllegalStateException {
        needWithin(which, 5);
        String words = Parser.pieceOf(which);
        if (parser.length + words.length() + 1 > TEXT_ROOM) {
            throw new IllegalStateException();
        }
        parser.putWords(words);
        return parser.length;
    }

    public int clearText() {
        int before = parser.length;
        parser.wipe();
        return before;
    }

    public int errorKind() {
        parser.check();
        return parser.failKind;
    }

    public int errorPlace() {
        parser.check();
        return parser.failPlace;
    }

    public int load() throws IllegalStateException {
        parser.check();
        if (parser.failKind != 0) {
            throw new IllegalStateException();
        }
        parser.keepAll();
        return store.policyCount;
    }

    // ---- policies

    public int ruleAt(int policy, int at, int rule, int what)
            throws IndexOutOfBoundsException, IllegalArgumentException {
        needPolicyAt(policy, at);
        Rows asked = store.policy(policy).rulesFor(at);
        needIndex(rule, asked.size());
        needWithin(what, 2);
        return asked.get(rule, what);
    }

    public int rules(int policy, int at) throws IndexOutOfBoundsException {
        needPolicyAt(policy, at);
        return store.policy(policy).rulesFor(at).size();
    }

    public int actionAt(int policy, int at, int row, int index, int what)
            throws IndexOutOfBoundsException, IllegalArgumentException, NoSuchElementException {
        needPolicyAt(policy, at);
        needWithin(row, ROWS - 1);
        needWithin(what, FIELDS - 1);
        Policy asked = store.policy(policy);
        int rule = asked.fit(at, ROWS - 1, row);
        if (rule < 0 || index < 0 || index >= asked.actionsOf(at, rule)) {
            throw new NoSuchElementException();
        }
        return Policy.fieldOf(asked.action(at, rule, index), what);
    }

    public boolean has(int slice, int header) throws IndexOutOfBoundsException, IllegalArgumentException {
        needIndex(slice, store.sliceCount);
        needWithin(header, HEADERS - 1);
        return store.sliceHas(slice, header);
    }

    public int reach(int policy, int from, int to) throws IndexOutOfBoundsException {
        needIndex(policy, store.policyCount);
        needIndex(from, network.hosts);
        needIndex(to, network.hosts);
        return walk.reaching(store.policy(policy), from, to);
    }

    public int avoids(int policy, int from, int to, int past) throws IndexOutOfBoundsException {
        needIndex(policy, store.policyCount);
        needIndex(from, network.hosts);
        needIndex(to, network.hosts);
        needSwitch(past);
        return walk.avoiding(store.policy(policy), from, to, past);
    }

    public int astray(int policy, int from) throws IndexOutOfBoundsException {
        needIndex(policy, store.policyCount);
        needIndex(from, network.hosts);
        return walk.straying(store.policy(policy), from);
    }

    public int differsAt(int policy, int other, int from) throws IndexOutOfBoundsException {
        needIndex(policy, store.policyCount);
        needIndex(other, store.policyCount);
        needIndex(from, network.hosts);
        return walk.leastDifference(store.policy(policy), store.policy(other), from);
    }

    // ---- updates

    public int update(int policy, int slice, int mode)
            throws IndexOutOfBoundsException, IllegalArgumentException, IllegalStateException {
        needIndex(policy, store.policyCount);
        if (slice != NONE) {
            needIndex(slice, store.sliceCount);
        }
        needWithin(mode, 1);
        if (mode == 1 && slice != NONE) {
            throw new IllegalArgumentException();
        }
        if (!controller.canBegin(slice, mode)) {
            throw new IllegalStateException();
        }
        return controller.begin(policy, slice, mode);
    }

    public int cancel() throws IllegalStateException {
        if (!controller.canCancel()) {
            throw new IllegalStateException();
        }
        controller.isCancelled = true;
        return controller.current;
    }

    public int stop() throws IllegalStateException {
        if (controller.isStopped) {
            throw new IllegalStateException();
        }
        return controller.halt();
    }

    public int start() throws IllegalStateException {
        if (!controller.isStopped) {
            throw new IllegalStateException();
        }
        return controller.wake();
    }

    public int updateAt(int update, int what) throws IndexOutOfBoundsException, IllegalArgumentException {
        needIndex(update, controller.updates.size());
        needWithin(what, 6);
        return controller.updates.get(update, what);
    }

    public int controllerAt(int what) throws IllegalArgumentException {
        needWithin(what, 8);
        return controller.tell(what);
    }

    // ---- messages and answers

    public int deliver(int at, int choice) throws IndexOutOfBoundsException, IllegalArgumentException {
        Station station = stationAt(at);
        needWithin(choice, MOST_CHOICE);
        int ready = station.ready();
        return ready > 0 ? controller.carryOut(station, choice % ready) : NONE;
    }

    public int answer(int choice) throws IllegalArgumentException, IllegalStateException {
        needWithin(choice, MOST_CHOICE);
        if (controller.isStopped) {
            throw new IllegalStateException();
        }
        int waiting = controller.answers.size();
        return waiting > 0 ? controller.takeAnswer(choice % waiting) : NONE;
    }

    public int settle() {
        int steps = 0;
        for (int i = 0; i < FAR; i++) {
            Station busy = firstBusy();
            if (busy != null) {
                controller.carryOut(busy, 0);
            } else if (!controller.isStopped && controller.answers.size() > 0) {
                controller.takeAnswer(0);
            } else {
                break;
            }
            steps++;
        }
        return steps;
    }

    private Station firstBusy() {
        for (int i = 0; i < network.switches && i < stations.length; i++) {
            if (stations[i].inbox.size() > 0) {
                return stations[i];
            }
        }
        return null;
    }

    public int answerAt(int answer, int what) throws IndexOutOfBoundsException, IllegalArgumentException {
        needIndex(answer, controller.answers.size());
        needWithin(what, 3);
        return controller.answers.get(answer, what);
    }

    public int messageAt(int at, int message, int what) throws IndexOutOfBoundsException, IllegalArgumentException {
        Station station = stationAt(at);
        needIndex(message, station.inbox.size());
        needWithin(what, 3);
        return station.inbox.get(message, what);
    }

    // ---- switches

    public int switchAt(int at, int what) throws IndexOutOfBoundsException, IllegalArgumentException {
        Station station = stationAt(at);
        needWithin(what, 4);
        switch (what) {
            case 0:
                return station.table.size();
            case 1:
                return Station.listed(station.stamps);
            case 2:
                return station.inbox.size();
            case 3:
                return station.ready();
            default:
                return station.restarts;
        }
    }

    public int tableAt(int at, int rule, int what) throws IndexOutOfBoundsException, IllegalArgumentException {
        Station station = stationAt(at);
        needIndex(rule, station.table.size());
        needWithin(what, 4);
        return station.table.get(rule, what);
    }

    public int stampAt(int at, int entry, int what) throws IndexOutOfBoundsException, IllegalArgumentException {
        Station station = stationAt(at);
        needIndex(entry, Station.listed(station.stamps));
        needWithin(what, 2);
        int told = Station.entryOf(station.stamps, entry);
        return what == 0 ? Station.sliceIn(told) : what == 1 ? Station.tagIn(told) : Station.policyIn(told);
    }

    // ---- packets

    public int send(int host, int header)
            throws IndexOutOfBoundsException, IllegalArgumentException, IllegalStateException {
        needIndex(host, network.hosts);
        needWithin(header, HEADERS - 1);
        if (traffic.packets.size() >= MOST_PACKETS) {
            throw new IllegalStateException();
        }
        return traffic.enter(host, header);
    }

    public int pass(int ticks) throws IllegalArgumentException {
        needWithin(ticks - 1, MOST_TICKS - 1);
        int before = traffic.arrived;
        for (int i = 0; i < ticks; i++) {
            network.time++;
            controller.look();
            traffic.arriveNow();
        }
        return traffic.arrived - before;
    }

    public int packetAt(int packet, int what) throws IndexOutOfBoundsException, IllegalArgumentException {
        needIndex(packet, traffic.packets.size());
        needWithin(what, 8);
        return traffic.packets.get(packet, what);
    }

    public int copyAt(int packet, int copy, int what) throws IndexOutOfBoundsException, IllegalArgumentException {
        needIndex(packet, traffic.packets.size());
        Rows copies = traffic.copiesOf(packet);
        needIndex(copy, copies.size());
        needWithin(what, 8);
        return copies.get(copy, what);
    }

    public boolean isBy(int packet, int policy) throws IndexOutOfBoundsException {
        needIndex(packet, traffic.packets.size());
        needIndex(policy, store.policyCount);
        return traffic.goesBy(packet, store.policy(policy));
    }

    public boolean isWhole(int packet) throws IndexOutOfBoundsException {
        needIndex(packet, traffic.packets.size());
        return traffic.nothingMissing(packet);
    }

    public int deliveredAt(int host, int index, int what)
            throws IndexOutOfBoundsException, IllegalArgumentException, NoSuchElementException {
        needIndex(host, network.hosts);
        needWithin(what, 3);
        int row = traffic.deliveryRow(host, index);
        if (row == NONE) {
            throw new NoSuchElementException();
        }
        return traffic.deliveryTold(row, what);
    }

    // ---- counts and checks

    public int count(int what) throws IllegalArgumentException {
        needWithin(what, 15);
        switch (what) {
            case 0:
                return network.time;
            case 1:
                return network.switches;
            case 2:
                return network.links;
            case 3:
                return network.hosts;
            case 4:
                return store.policyCount;
            case 5:
                return store.sliceCount;
            case 6:
                return controller.updates.size();
            case 7:
                return traffic.packets.size();
            case 11:
                return traffic.packetsByNone();
            case 12:
                return traffic.packetsMissing();
            case 14:
                return parser.length;
            default:
                return what < 11 ? traffic.sum(what - 4) : inAllStations(what);
        }
    }

    private int inAllStations(int what) {
        int sum = 0;
        for (int i = 0; i < network.switches && i < stations.length; i++) {
            sum += what == 13 ? stations[i].inbox.size() : stations[i].restarts;
        }
        return sum;
    }

    private int inAllTables() {
        int sum = 0;
        for (int i = 0; i < network.switches && i < stations.length; i++) {
            sum += stations[i].table.size();
        }
        return sum;
    }

    public boolean isConsistent() {
        return controller.hasChanged() || (traffic.followsTheorem() && controller.tablesFollowTheorem());
    }

    public int errors() {
        int sum = traffic.strandedCopies();
        for (int i = 0; i < network.switches && i < stations.length; i++) {
            sum += stations[i].tableFaults();
        }
        return sum;
    }

    public double deliveredShare() {
        int copies = traffic.sum(Traffic.COPIES);
        return copies > 0 ? (double) traffic.sum(Traffic.ARRIVED) / (double) copies : 0.0;
    }

    public float meanRules() {
        return network.switches > 0 ? (float) inAllTables() / (float) network.switches : 0.0f;
    }

    // ---- the tests of what callers give

    private static void needIndex(int number, int howMany) {
        if (number < 0 || number >= howMany) {
            throw new IndexOutOfBoundsException();
        }
    }

    private static void needWithin(int value, int most) {
        if (value < 0 || value > most) {
            throw new IllegalArgumentException();
        }
    }

    private void needSwitch(int at) {
        needIndex(at, network.switches);
    }

    private Station stationAt(int at) {
        if (at < 0 || at >= network.switches || at >= stations.length) {
            throw new IndexOutOfBoundsException();
        }
        return stations[at];
    }

    private void needPolicyAt(int policy, int at) {
        needIndex(policy, store.policyCount);
        needIndex(at, MOST_SWITCHES);
    }

    /** Rows of numbers. They grow and are used again, so that a long run makes few arrays. */
    private static final class Rows {
        private final int columns;
        private int[] cells;
        /** How many rows ahead of row 0 were taken away; their cells are used again when room is short. */
        private int gone;
        private int size;

        Rows(int columns, int room) {
            this.columns = Math.max(1, columns);
            this.cells = new int[this.columns * Math.max(1, room)];
        }

        int size() {
            return size;
        }

        int get(int row, int column) {
            boolean isThere = row >= 0 && row < size && column >= 0 && column < columns;
            int cell = isThere ? (gone + row) * columns + column : NONE;
            return cell >= 0 && cell < cells.length ? cells[cell] : 0;
        }

        void set(int row, int column, int value) {
            boolean isThere = row >= 0 && row < size && column >= 0 && column < columns;
            int cell = isThere ? (gone + row) * columns + column : NONE;
            if (cell >= 0 && cell < cells.length) {
                cells[cell] = value;
            }
        }

        /** Adds a row with these numbers in front and 0 in its further columns; NONE if there are far too many. */
        int add(int a, int b, int c, int d) {
            if ((gone + size + 1) * columns > cells.length) {
                if (gone > 0 && (gone + size) * columns <= cells.length) {
                    System.arraycopy(cells, gone * columns, cells, 0, size * columns);
                    gone = 0;
                } else if (cells.length < FAR) {
                    cells = Arrays.copyOf(cells, cells.length * 2);
                }
            }
            int row = size;
            int from = (gone + row) * columns;
            if (from < 0 || from + columns > cells.length) {
                return NONE;
            }
            size++;
            for (int i = from; i < from + columns && i < cells.length; i++) {
                cells[i] = 0;
            }
            set(row, 0, a);
            set(row, 1, b);
            set(row, 2, c);
            set(row, 3, d);
            return row;
        }

        void removeRow(int row) {
            if (row < 0 || row >= size) {
                return;
            }
            int from = (gone + row) * columns;
            int rest = (size - row - 1) * columns;
            if (row == 0) {
                gone++;
            } else if (from >= 0 && from + columns + rest <= cells.length) {
                System.arraycopy(cells, from + columns, cells, from, rest);
            }
            size--;
        }

        void cutTo(int newSize) {
            if (newSize >= 0 && newSize < size) {
                size = newSize;
            }
            if (size == 0) {
                gone = 0;
            }
        }
    }

    /** The time, and what is at each port. A place is a port of a switch, as one number. */
    private static final class Network {
        private static final int[] LINKS_0 = {0, 1, 1, 0, 2, 0, 2, 2, 0, 3, 1, 1, 3, 0, 2, 2, 1, 3, 1, 1};
        private static final int[] LINKS_1 = {0, 1, 1, 0, 1, 1, 1, 2, 0, 2, 2, 1, 3, 0, 3, 3, 1, 0, 0, 4};
        private static final int[] LINKS_2 = {0, 1, 1, 0, 9, 1, 1, 2, 0, 1};
        private static final int[] HOSTS_0 = {0, 0, 3, 2, 1, 2, 2, 2};
        private static final int[] HOSTS_1 = {0, 2, 1, 2, 2, 2, 3, 2};
        private static final int[] HOSTS_2 = {0, 0, 0, 2, 2, 1};

        private int time;
        private int switches;
        private int links;
        private int hosts;
        private final int[] uses = new int[MOST_SWITCHES * PORTS];
        private final int[] ends = new int[2 * MOST_LINKS];
        private final int[] delays = new int[MOST_LINKS];
        private final boolean[] areDown = new boolean[MOST_LINKS];
        private final int[] homes = new int[MOST_HOSTS];

        Network() {
            Arrays.fill(uses, NONE);
        }

        static int place(int at, int port) {
            return at * PORTS + port;
        }

        /** A host, -2 less a link, or NONE. */
        int useOf(int place) {
            return place >= 0 && place < uses.length ? uses[place] : NONE;
        }

        int join(int one, int other, int delay) {
            int link = links;
            if (link < 0 || link >= delays.length || 2 * link + 1 >= ends.length
                    || one < 0 || one >= uses.length || other < 0 || other >= uses.length) {
                return NONE;
            }
            uses[one] = -2 - link;
            uses[other] = -2 - link;
            ends[2 * link] = one;
            ends[2 * link + 1] = other;
            delays[link] = delay;
            links++;
            return link;
        }

        int house(int place) {
            int host = hosts;
            if (host < 0 || host >= homes.length || place < 0 || place >= uses.length) {
                return NONE;
            }
            uses[place] = host;
            homes[host] = place;
            hosts++;
            return host;
        }

        void layOut(int which) {
            int[] newLinks = which == 0 ? LINKS_0 : which == 1 ? LINKS_1 : LINKS_2;
            int[] newHosts = which == 0 ? HOSTS_0 : which == 1 ? HOSTS_1 : HOSTS_2;
            switches = which == 2 ? 3 : 4;
            for (int i = 0; i + 4 < newLinks.length; i += 5) {
                join(place(newLinks[i], newLinks[i + 1]), place(newLinks[i + 2], newLinks[i + 3]), newLinks[i + 4]);
            }
            for (int i = 0; i + 1 < newHosts.length; i += 2) {
                house(place(newHosts[i], newHosts[i + 1]));
            }
        }

        int homeOf(int host) {
            return host >= 0 && host < homes.length ? homes[host] : 0;
        }

        int farEnd(int link, int place) {
            if (link < 0 || 2 * link + 1 >= ends.length) {
                return NONE;
            }
            return ends[2 * link] == place ? ends[2 * link + 1] : ends[2 * link];
        }

        int delayOf(int link) {
            return link >= 0 && link < delays.length ? delays[link] : 1;
        }

        boolean isDown(int link) {
            return link >= 0 && link < areDown.length && areDown[link];
        }

        void turn(int link, boolean isUp) {
            if (link >= 0 && link < areDown.length) {
                areDown[link] = !isUp;
            }
        }
    }

    /**
     * The rules of one policy for each switch. An action is a card with a port: a number that has, for the port and
     * each field, what is written plus 1, or 0 for nothing, so that the order of the numbers is that of the actions.
     */
    private static final class Policy {
        /** The columns of a rule: its pattern, how many actions it has, and these. */
        private static final int MASK = 0, VALUE = 1, SIZE = 2, ACTIONS = 3, COLUMNS = ACTIONS + WIDEST;
        private static final int[] CARD_SHIFT = {18, 13, 8, 4, 0};
        private static final int[] CARD_MOST = {7, 31, 31, 15, 15};

        private final Rows[] rules = new Rows[MOST_SWITCHES];
        /** For each switch, the one whose rows tell its rules: many switches have the same. */
        private final int[] teller = new int[MOST_SWITCHES];
        private final Rows noRules = new Rows(COLUMNS, 1);

        Policy(int room) {
            for (int at = 0; at < rules.length && at < teller.length; at++) {
                rules[at] = new Rows(COLUMNS, room);
                teller[at] = at;
            }
        }

        static int fieldOf(int card, int field) {
            if (field < 0 || field >= FIELDS) {
                return NONE;
            }
            return ((card >> CARD_SHIFT[field]) & CARD_MOST[field]) - 1;
        }

        static int withField(int card, int field, int value) {
            if (field < 0 || field >= FIELDS) {
                return card;
            }
            int shift = CARD_SHIFT[field];
            return (card & ~(CARD_MOST[field] << shift)) | ((value + 1) << shift);
        }

        /** A field of a row. */
        static int fieldIn(int row, int field) {
            if (field < 0 || field >= FIELDS) {
                return 0;
            }
            return (row >> ROW_SHIFT[field]) & ROW_MOST[field];
        }

        /** The bits of a header that an action writes. */
        static int writtenBy(int card) {
            int bits = 0;
            for (int f = PORT + 1; f < FIELDS; f++) {
                if (fieldOf(card, f) != NONE) {
                    bits |= ROW_MOST[f] << ROW_SHIFT[f];
                }
            }
            return bits;
        }

        static int headerBy(int card, int header) {
            int result = header;
            for (int f = PORT + 1; f < FIELDS; f++) {
                int value = fieldOf(card, f);
                if (value != NONE) {
                    result = (result & ~(ROW_MOST[f] << ROW_SHIFT[f])) | (value << ROW_SHIFT[f]);
                }
            }
            return result;
        }

        static int highest(int bits) {
            for (int bit = ROWS / 2; bit > 0; bit >>= 1) {
                if ((bits & bit) != 0) {
                    return bit;
                }
            }
            return 0;
        }

        Rows rulesFor(int at) {
            int told = at >= 0 && at < teller.length ? teller[at] : NONE;
            return told >= 0 && told < rules.length ? rules[told] : noRules;
        }

        int actionsOf(int at, int rule) {
            return rulesFor(at).get(rule, SIZE);
        }

        int action(int at, int rule, int index) {
            return rulesFor(at).get(rule, ACTIONS + index);
        }

        /**
         * The rule that fits a row of which some bits are known (the others are 0 in it); NONE if there is none;
         * less than NONE if a further bit must be known: NONE less this bit.
         */
        int fit(int at, int known, int row) {
            Rows its = rulesFor(at);
            for (int rule = 0; rule < its.size(); rule++) {
                int mask = its.get(rule, MASK);
                if (((its.get(rule, VALUE) ^ row) & mask & known) == 0) {
                    int open = mask & ~known;
                    return open == 0 ? rule : NONE - highest(open);
                }
            }
            return NONE;
        }

        int withPattern(int at, int mask, int value) {
            Rows its = rulesFor(at);
            for (int rule = 0; rule < its.size(); rule++) {
                if (its.get(rule, MASK) == mask && its.get(rule, VALUE) == value) {
                    return rule;
                }
            }
            return NONE;
        }

        /** Whether it has a rule of another policy, with the same pattern and actions, for a switch. */
        boolean hasRuleOf(int at, Policy other, int otherRule) {
            Rows its = rulesFor(at);
            Rows others = other.rulesFor(at);
            int rule = withPattern(at, others.get(otherRule, MASK), others.get(otherRule, VALUE));
            for (int column = 0; column < COLUMNS && rule != NONE; column++) {
                if (its.get(rule, column) != others.get(otherRule, column)) {
                    return false;
                }
            }
            return rule != NONE;
        }

        /** Whether an action makes a copy of one with this header: none ahead of it makes the same one. */
        boolean makesCopy(int at, int rule, int index, int header) {
            int card = action(at, rule, index);
            for (int i = 0; i < index && i < WIDEST; i++) {
                int ahead = action(at, rule, i);
                if (fieldOf(ahead, PORT) == fieldOf(card, PORT) && headerBy(ahead, header) == headerBy(card, header)) {
                    return false;
                }
            }
            return true;
        }

        void keepRules(int at, Rows found) {
            if (at < 0 || at >= teller.length) {
                return;
            }
            teller[at] = at;
            Rows its = rulesFor(at);
            its.cutTo(0);
            for (int rule = 0; rule < found.size(); rule++) {
                its.add(0, 0, 0, 0);
                for (int column = 0; column < COLUMNS; column++) {
                    its.set(rule, column, found.get(rule, column));
                }
            }
        }

        /** Lets a switch have the rules of another one. */
        void shareRules(int from, int to) {
            if (from >= 0 && from < teller.length && to >= 0 && to < teller.length) {
                teller[to] = teller[from];
            }
        }
    }

    /** What was loaded: policies and slices with their names. A place behind them serves what is being checked. */
    private static final class Store {
        private final Policy[] policies = new Policy[MOST_POLICIES];
        private final long[] policyNames = new long[MOST_POLICIES];
        private final Tree[] slices = new Tree[MOST_POLICIES];
        private final long[] sliceNames = new long[MOST_POLICIES];
        private final Policy nothing = new Policy(1);
        private int policyCount;
        private int sliceCount;

        Policy policy(int number) {
            if (number < 0 || number >= policies.length || policies[number] == null) {
                return nothing;
            }
            return policies[number];
        }

        Policy roomFor(int number) {
            if (number < 0 || number >= policies.length) {
                return nothing;
            }
            if (policies[number] == null) {
                policies[number] = new Policy(4);
            }
            return policies[number];
        }

        boolean sliceHas(int slice, int header) {
            if (slice < 0 || slice >= slices.length || slices[slice] == null) {
                return false;
            }
            return slices[slice].holdsFor(header);
        }

        void keepSlice(Tree tree) {
            if (sliceCount < slices.length) {
                slices[sliceCount] = tree;
                sliceCount++;
            }
        }

        static boolean hasName(long[] names, int howMany, long name) {
            for (int i = 0; i < howMany && i < names.length; i++) {
                if (names[i] == name) {
                    return true;
                }
            }
            return false;
        }
    }

    /** Policies and tests as trees of numbered nodes. */
    private static final class Tree {
        /** The columns of a node: its kind, three numbers by its kind, and the node that follows in the same row. */
        private static final int KIND = 0, A = 1, B = 2, C = 3, NEXT = 4;
        /** DROP, PASS; SET field A to B; IF test A, B, else C; AT the switches A, B; the nodes from A on. */
        private static final int DROP_ALL = 0, PASS_ALL = 1, SET = 2, CHOICE = 3, PLACES = 4, ROW = 5, SUM = 6;
        /** ANY; field A from B to C; NOT A; all, one of the nodes from A on. */
        private static final int ANY = 7, FACT = 8, NOT = 9, ALL = 10, SOME = 11;
        /** What a test tells of a card of which not all is known. */
        private static final int NO = 0, YES = 1, OPEN = 2;
        /** A text is 20 deep at most, and each level makes three nodes at most. */
        private static final int DEEPEST_NODE = 70;

        private final Rows nodes;
        private int root = NONE;

        Tree(int room) {
            nodes = new Rows(5, room);
        }

        int add(int kind, int a, int b, int c) {
            int node = nodes.add(kind, a, b, c);
            nodes.set(node, NEXT, NONE);
            return node;
        }

        /** What a test tells of a card made from a row of which some bits are known (the others are 0 in it). */
        private int judge(int node, int card, int known, int row, int depth) {
            int kind = nodes.get(node, KIND);
            int a = nodes.get(node, A);
            if (depth > DEEPEST_NODE) {
                return OPEN;
            }
            switch (kind) {
                case FACT:
                    if (a < 0 || a >= FIELDS) {
                        return NO;
                    }
                    int written = a == PORT ? NONE : Policy.fieldOf(card, a);
                    int low = written != NONE ? written : Policy.fieldIn(row, a);
                    int high = written != NONE ? written : low | Policy.fieldIn(~known, a);
                    int least = nodes.get(node, B);
                    int most = nodes.get(node, C);
                    if (high < least || low > most) {
                        return NO;
                    }
                    return low >= least && high <= most ? YES : OPEN;
                case NOT:
                    int told = judge(a, card, known, row, depth + 1);
                    return told == OPEN ? OPEN : YES - told;
                case ALL:
                case SOME:
                    int deciding = kind == ALL ? NO : YES;
                    int result = YES - deciding;
                    for (int i = a, n = 0; i != NONE && n < TEXT_ROOM; i = nodes.get(i, NEXT), n++) {
                        int one = judge(i, card, known, row, depth + 1);
                        if (one == deciding) {
                            return deciding;
                        }
                        result = one == OPEN ? OPEN : result;
                    }
                    return result;
                default:
                    return YES;
            }
        }

        boolean holdsFor(int header) {
            return judge(root, 0, ROWS - 1, header, 0) == YES;
        }

        /** The number of cards that a policy can make of one, but 9 for all above 8. */
        private int widthOf(int node, int depth) {
            int kind = nodes.get(node, KIND);
            int a = nodes.get(node, A);
            int b = nodes.get(node, B);
            int c = nodes.get(node, C);
            if (node == NONE || depth > DEEPEST_NODE) {
                return 1;
            }
            switch (kind) {
                case CHOICE:
                    return Math.max(widthOf(b, depth + 1), widthOf(c, depth + 1));
                case PLACES:
                    return widthOf(b, depth + 1);
                case ROW:
                case SUM:
                    int width = kind == ROW ? 1 : 0;
                    for (int i = a, n = 0; i != NONE && n < TEXT_ROOM; i = nodes.get(i, NEXT), n++) {
                        int one = widthOf(i, depth + 1);
                        width = Math.min(WIDEST + 1, kind == ROW ? width * one : width + one);
                    }
                    return width;
                default:
                    return 1;
            }
        }

        /** An earlier switch of which a policy, whose nodes begin at one, tells the same; NONE without one. */
        int twinOf(int at, int first) {
            for (int twin = 0; twin < at; twin++) {
                boolean areSame = true;
                for (int i = first; i < nodes.size() && areSame; i++) {
                    int places = nodes.get(i, A);
                    areSame = nodes.get(i, KIND) != PLACES || ((places >> at) & 1) == ((places >> twin) & 1);
                }
                if (areSame) {
                    return twin;
                }
            }
            return NONE;
        }

        /** Marks for each field the values that a test of the policy tells from the value below. */
        private void markCuts(int node, int at, int[] cuts, int depth) {
            if (node == NONE || depth > DEEPEST_NODE) {
                return;
            }
            int a = nodes.get(node, A);
            int b = nodes.get(node, B);
            switch (nodes.get(node, KIND)) {
                case FACT:
                    if (a >= 0 && a < cuts.length) {
                        cuts[a] |= (1 << b) | (2 << nodes.get(node, C));
                    }
                    break;
                case CHOICE:
                    markCuts(a, at, cuts, depth + 1);
                    markCuts(b, at, cuts, depth + 1);
                    markCuts(nodes.get(node, C), at, cuts, depth + 1);
                    break;
                case PLACES:
                    markCuts(((a >> at) & 1) != 0 ? b : NONE, at, cuts, depth + 1);
                    break;
                case NOT:
                case ROW:
                case SUM:
                case ALL:
                case SOME:
                    for (int i = a, n = 0; i != NONE && n < TEXT_ROOM; i = nodes.get(i, NEXT), n++) {
                        markCuts(i, at, cuts, depth + 1);
                    }
                    break;
                default:
                    break;
            }
        }

        /** A tree of its own of the nodes of a test, which stand together here. */
        Tree partFrom(int first, int end, int top) {
            Tree part = new Tree(end - first);
            for (int i = first; i < end && i < nodes.size(); i++) {
                int kind = nodes.get(i, KIND);
                int a = nodes.get(i, A);
                int next = nodes.get(i, NEXT);
                boolean hasNodes = kind == NOT || kind == ALL || kind == SOME;
                part.add(kind, hasNodes ? a - first : a, nodes.get(i, B), nodes.get(i, C));
                part.nodes.set(i - first, NEXT, next == NONE ? NONE : next - first);
            }
            part.root = top - first;
            return part;
        }
    }

    /** Finds the rules of a policy. It splits the rows bit by bit, only where the policy asks for the bit. */
    private static final class Compiler {
        private static final int CARD_ROOM = 2048;

        private final Tree tree;
        /** Rules, with the columns of those of a policy. */
        private final Rows found = new Rows(Policy.COLUMNS, MOST_RULES);
        private final int[] cuts = new int[FIELDS];
        /** Sets of cards, one behind the other. */
        private final int[] cards = new int[CARD_ROOM];
        private int root;
        private int at;
        private int known;
        private int row;
        private boolean isStuck;

        Compiler(Tree tree) {
            this.tree = tree;
        }

        /** Puts the rules into the policy; tells whether they are few enough for each switch. */
        boolean compile(int top, int first, Policy policy) {
            root = top;
            for (int s = 0; s < MOST_SWITCHES; s++) {
                int twin = tree.twinOf(s, first);
                if (twin != NONE) {
                    policy.shareRules(twin, s);
                    continue;
                }
                at = s;
                Arrays.fill(cuts, 0);
                tree.markCuts(top, s, cuts, 0);
                found.cutTo(0);
                if (!explore(0, 0, 0)) {
                    return false;
                }
                policy.keepRules(s, found);
            }
            return true;
        }

        /** Finds the rules of the rows with these known bits; false if there are too many. */
        private boolean explore(int bit, int knownBits, int value) {
            known = knownBits;
            row = value;
            isStuck = false;
            // card 0, which nothing changes, is the one to begin with: nothing written, no port
            int end = run(root, 0, 1, 1, 0);
            if (!isStuck) {
                addRule(1, end);
                return true;
            }
            int split = nextSplit(bit, knownBits, value);
            if (split >= ROW_BITS) {
                return false;
            }
            int mark = 1 << (ROW_BITS - 1 - split);
            int start = found.size();
            if (!explore(split + 1, knownBits | mark, value)) {
                return false;
            }
            int middle = found.size();
            if (!explore(split + 1, knownBits | mark, value | mark)) {
                return false;
            }
            if (areSame(start, middle)) {
                found.cutTo(middle);
            } else {
                markRules(start, middle, mark);
            }
            return found.size() - start <= MOST_RULES;
        }

        /** The first bit from here on whose field has values that the policy tells from one another. */
        private int nextSplit(int bit, int knownBits, int value) {
            for (int f = 0; f < FIELDS; f++) {
                int end = f + 1 < FIELDS ? FIRST_BIT[f + 1] : ROW_BITS;
                if (bit < end) {
                    int low = Policy.fieldIn(value, f);
                    int high = low | Policy.fieldIn(~knownBits, f);
                    int between = (2 << high) - (2 << low);
                    if ((cuts[f] & between) != 0) {
                        return Math.max(bit, FIRST_BIT[f]);
                    }
                }
            }
            return ROW_BITS;
        }

        private boolean areSame(int start, int middle) {
            int length = middle - start;
            if (found.size() - middle != length) {
                return false;
            }
            for (int i = start; i < middle; i++) {
                for (int column = 0; column < Policy.COLUMNS; column++) {
                    if (found.get(i, column) != found.get(i + length, column)) {
                        return false;
                    }
                }
            }
            return true;
        }

        private void markRules(int start, int middle, int mark) {
            for (int i = start; i < found.size(); i++) {
                found.set(i, Policy.MASK, found.get(i, Policy.MASK) | mark);
                if (i >= middle) {
                    found.set(i, Policy.VALUE, found.get(i, Policy.VALUE) | mark);
                }
            }
        }

        /** Adds a rule with the cards that have a port, in order; none without such cards. */
        private void addRule(int start, int end) {
            int rule = NONE;
            int size = 0;
            for (int i = start; i < end && i < cards.length; i++) {
                if (Policy.fieldOf(cards[i], PORT) != NONE && size < WIDEST) {
                    rule = rule == NONE ? found.add(0, 0, 0, 0) : rule;
                    int j = size++;
                    for (; j > 0 && found.get(rule, Policy.ACTIONS + j - 1) > cards[i]; j--) {
                        found.set(rule, Policy.ACTIONS + j, found.get(rule, Policy.ACTIONS + j - 1));
                    }
                    found.set(rule, Policy.ACTIONS + j, cards[i]);
                }
            }
            found.set(rule, Policy.SIZE, size);
        }

        /** Runs a node on the set of cards from start to end; its cards go from top on. Returns their end. */
        private int run(int node, int start, int end, int top, int depth) {
            if (isStuck || start >= end || depth > Tree.DEEPEST_NODE) {
                return top;
            }
            int a = tree.nodes.get(node, Tree.A);
            int b = tree.nodes.get(node, Tree.B);
            switch (tree.nodes.get(node, Tree.KIND)) {
                case Tree.PASS_ALL:
                    return unite(start, end, top, top);
                case Tree.SET:
                    int last = top;
                    for (int i = start; i < end; i++) {
                        last = put(Policy.withField(cardAt(i), a, b), top, last);
                    }
                    return last;
                case Tree.CHOICE:
                    return runChoice(node, start, end, top, depth);
                case Tree.PLACES:
                    return ((a >> at) & 1) != 0 ? run(b, start, end, top, depth + 1) : top;
                case Tree.ROW:
                    return runRow(a, start, end, top, depth);
                case Tree.SUM:
                    int sum = top;
                    for (int i = a, n = 0; i != NONE && n < TEXT_ROOM; i = tree.nodes.get(i, Tree.NEXT), n++) {
                        sum = unite(sum, run(i, start, end, sum, depth + 1), top, sum);
                    }
                    return sum;
                default:
                    return top;
            }
        }

        private int runRow(int first, int start, int end, int top, int depth) {
            int made = run(first, start, end, top, depth + 1);
            int i = tree.nodes.get(first, Tree.NEXT);
            for (int n = 0; i != NONE && n < TEXT_ROOM; n++) {
                int more = run(i, top, made, made, depth + 1);
                made = unite(made, more, top, top);
                i = tree.nodes.get(i, Tree.NEXT);
            }
            return made;
        }

        private int runChoice(int node, int start, int end, int top, int depth) {
            int test = tree.nodes.get(node, Tree.A);
            int others = top;
            for (int i = start; i < end; i++) {
                int told = tree.judge(test, cardAt(i), known, row, 0);
                if (told == Tree.OPEN) {
                    isStuck = true;
                    return top;
                }
                if (told == Tree.YES) {
                    others = put(cardAt(i), top, others);
                }
            }
            int all = others;
            for (int i = start; i < end; i++) {
                if (tree.judge(test, cardAt(i), known, row, 0) == Tree.NO) {
                    all = put(cardAt(i), others, all);
                }
            }
            int middle = run(tree.nodes.get(node, Tree.B), top, others, all, depth + 1);
            int otherwise = tree.nodes.get(node, Tree.C);
            int last = otherwise == NONE ? middle : run(otherwise, others, all, middle, depth + 1);
            return unite(all, last, top, top);
        }

        /** Puts the cards from start to end behind the set from top to last, but those that it has. */
        private int unite(int start, int end, int top, int last) {
            int newLast = last;
            for (int i = start; i < end; i++) {
                newLast = put(cardAt(i), top, newLast);
            }
            return newLast;
        }

        private int cardAt(int i) {
            return i >= 0 && i < cards.length ? cards[i] : 0;
        }

        private int put(int card, int top, int last) {
            for (int i = top; i < last && i < cards.length; i++) {
                if (i >= 0 && cards[i] == card) {
                    return last;
                }
            }
            if (last < 0 || last >= cards.length) {
                return last;
            }
            cards[last] = card;
            return last + 1;
        }
    }

    /** The text, its tokens, and its first error. */
    private static final class Parser {
        private static final String UP = "policy up { at 0 { if in 0 { if to = 1 .. 2 { out 1 } else { out 2 } } else { out 0 } } | at 1, 2 { if in 0 { if to = 1 { out 1 } else { out 2 } } else { out 0 } } | at 3 { if in 2 { if to = 3 { out 1 } else { out 0 } } else { out 2 } } }";
        private static final String LOW = "policy low { at 0 { if in 0 { if to = 2 { out 1 } else { out 2 } } else { out 0 } } | at 1, 2 { if in 0 { if to = 1 { out 1 } else { out 2 } } else { out 0 } } | at 3 { if in 2 { if to = 2 { out 0 } else { out 1 } } else { mark := 7; out 2 } } }";
        private static final String TWICE = "policy twice { at 0 { if in 0 { out 1 | kind := 1; out 2 } else { out 0 } } | at 1, 2 { if kind = 1 .. 3 and not in 1 { out 1; mark := 3 } else { if in 1 { out 0 } else { out 1 } } } | at 3 { if in 2 { out 0 } else { out 2 } } }";
        private static final String SLICES = "slice few { kind = 0 .. 3 and not from = 1 } slice odd { mark = 1 or mark = 3 or (mark = 5 .. 7 and not mark = 6) }";
        private static final String RIGHT_ROUND = "policy right { at 0, 1, 2, 3 { out 1 | if to = 2 and mark = 0 { out 2 } } }";
        private static final String HOME = "policy home { at 0 { if to = 0 { out 2 } else { out 1 } } | at 1 { if to = 1 { out 2 } else { out 1 } } | at 2 { if to = 2 { out 2 } else { out 1 } } | at 3 { if to = 3 { out 2 } else { out 1 } } }";

        /** The words of the language, each as the number of its bytes; their tokens are their places here. */
        private static final long[] WORDS = {
            0x706f6c696379L, 0x736c696365L, 0x64726f70L, 0x70617373L, 0x6f7574L, 0x6966L, 0x656c7365L, 0x6174L,
            0x6f72L, 0x616e64L, 0x6e6f74L, 0x616e79L, 0x696eL, 0x66726f6dL, 0x746fL, 0x6b696e64L, 0x6d61726bL};
        private static final int POLICY = 0, SLICE = 1, DROP = 2, PASS = 3, OUT = 4, IF = 5, ELSE = 6, AT = 7;
        private static final int OR = 8, AND = 9, NOT = 10, ANY = 11, IN = 12, FROM = 13, TO = 14, KIND = 15, MARK = 16;
        private static final int OPEN = 20, CLOSE = 21, LEFT = 22, RIGHT = 23, SEMICOLON = 24, COMMA = 25, BAR = 26;
        private static final int EQUALS = 27, BECOMES = 28, UP_TO = 29;
        /** STRANGE is a word that is too long for a NAME, BAD what is no token; behind an error all is FAILED. */
        private static final int NUMBER = 30, NAME = 31, STRANGE = 32, BAD = 33, END = 34, FAILED = 35;
        private static final int LONGEST_NAME = 8, LARGEST = 999, MOST_PORT = PORTS - 1;

        private final Store store;
        private final Tree tree = new Tree(64);
        private final Compiler compiler = new Compiler(tree);
        /** Where the slices of the text are in the tree: first node, end, root. */
        private final Rows newSlices = new Rows(3, MOST_POLICIES);
        private int newPolicies;
        private final byte[] bytes = new byte[TEXT_ROOM];
        private int length;
        private int position;
        private int token;
        private int place;
        private int number;
        private long name;
        private boolean inSlice;
        private boolean isChecked;
        private int failKind;
        private int failPlace = NONE;

        Parser(Store store) {
            this.store = store;
        }

        static String pieceOf(int which) {
            switch (which) {
                case 0:
                    return UP;
                case 1:
                    return LOW;
                case 2:
                    return TWICE;
                case 3:
                    return SLICES;
                case 4:
                    return RIGHT_ROUND;
                default:
                    return HOME;
            }
        }

        static int bytesIn(long packed) {
            int sum = 0;
            for (int shift = 56; shift >= 0; shift -= 8) {
                sum += ((packed >> shift) & 255) != 0 ? 1 : 0;
            }
            return sum;
        }

        void putBytes(long packed) {
            for (int shift = 56; shift >= 0; shift -= 8) {
                int one = (int) ((packed >> shift) & 255);
                if (one != 0) {
                    putByte(one);
                }
            }
        }

        void putWords(String words) {
            for (int i = 0; i < words.length(); i++) {
                putByte(words.charAt(i));
            }
            putByte(10);
        }

        private void putByte(int one) {
            if (length < bytes.length) {
                bytes[length] = (byte) one;
                length++;
                isChecked = false;
            }
        }

        void wipe() {
            length = 0;
            isChecked = false;
        }

        /** Puts what the text tells into the store; for a text without an error. */
        void keepAll() {
            store.policyCount += newPolicies;
            for (int i = 0; i < newSlices.size(); i++) {
                store.keepSlice(tree.partFrom(newSlices.get(i, 0), newSlices.get(i, 1), newSlices.get(i, 2)));
            }
            wipe();
        }

        /** Looks for the first error, and prepares what the text tells. */
        void check() {
            if (isChecked) {
                return;
            }
            isChecked = true;
            failKind = 0;
            failPlace = NONE;
            newPolicies = 0;
            newSlices.cutTo(0);
            tree.nodes.cutTo(0);
            position = 0;
            token = END;
            advance();
            for (int i = 0; i < TEXT_ROOM && (token == POLICY || token == SLICE); i++) {
                if (token == POLICY) {
                    readPolicy();
                } else {
                    readSlice();
                }
            }
            if (token != END) {
                refuse();
            }
        }

        private void readPolicy() {
            int slot = store.policyCount + newPolicies;
            if (slot >= MOST_POLICIES) {
                fail(5);
                return;
            }
            advance();
            long newName = name;
            takeName(store.policyNames, slot);
            enter(OPEN, 0);
            inSlice = false;
            int first = tree.nodes.size();
            int root = policy(1);
            if (token == CLOSE && tree.widthOf(root, 0) > WIDEST) {
                fail(7);
            } else if (token == CLOSE && !compiler.compile(root, first, store.roomFor(slot))) {
                fail(8);
            }
            take(CLOSE);
            if (failKind == 0 && slot < store.policyNames.length) {
                store.policyNames[slot] = newName;
                newPolicies++;
            }
        }

        private void readSlice() {
            int slot = store.sliceCount + newSlices.size();
            if (slot >= MOST_POLICIES) {
                fail(5);
                return;
            }
            advance();
            long newName = name;
            takeName(store.sliceNames, slot);
            enter(OPEN, 0);
            inSlice = true;
            int first = tree.nodes.size();
            int root = test(1);
            take(CLOSE);
            if (failKind == 0 && slot < store.sliceNames.length) {
                store.sliceNames[slot] = newName;
                newSlices.add(first, tree.nodes.size(), root, 0);
            }
        }

        private int policy(int depth) {
            int first = row(depth);
            if (token != BAR) {
                return first;
            }
            int last = first;
            for (int i = 0; i < TEXT_ROOM && token == BAR; i++) {
                advance();
                int next = row(depth);
                tree.nodes.set(last, Tree.NEXT, next);
                last = next;
            }
            return tree.add(Tree.SUM, first, NONE, NONE);
        }

        private int row(int depth) {
            int first = unit(depth);
            if (token != SEMICOLON) {
                return first;
            }
            int last = first;
            for (int i = 0; i < TEXT_ROOM && token == SEMICOLON; i++) {
                advance();
                int next = unit(depth);
                tree.nodes.set(last, Tree.NEXT, next);
                last = next;
            }
            return tree.add(Tree.ROW, first, NONE, NONE);
        }

        private int unit(int depth) {
            int field = token - FROM + 1;
            switch (token) {
                case DROP:
                    advance();
                    return tree.add(Tree.DROP_ALL, NONE, NONE, NONE);
                case PASS:
                    advance();
                    return tree.add(Tree.PASS_ALL, NONE, NONE, NONE);
                case OUT:
                    advance();
                    return tree.add(Tree.SET, PORT, takeNumber(0, MOST_PORT), NONE);
                case FROM:
                case TO:
                case KIND:
                case MARK:
                    advance();
                    take(BECOMES);
                    return tree.add(Tree.SET, field, takeNumber(0, mostOf(field)), NONE);
                case IF:
                    return choice(depth);
                case AT:
                    return places(depth);
                case LEFT:
                    enter(LEFT, depth);
                    int inner = policy(depth + 1);
                    take(RIGHT);
                    return inner;
                default:
                    refuse();
                    return NONE;
            }
        }

        private int choice(int depth) {
            advance();
            int test = test(depth);
            enter(OPEN, depth);
            int then = policy(depth + 1);
            take(CLOSE);
            int otherwise = NONE;
            if (token == ELSE) {
                advance();
                enter(OPEN, depth);
                otherwise = policy(depth + 1);
                take(CLOSE);
            }
            return tree.add(Tree.CHOICE, test, then, otherwise);
        }

        private int places(int depth) {
            advance();
            int set = 1 << takeNumber(0, MOST_SWITCHES - 1);
            for (int i = 0; i < TEXT_ROOM && token == COMMA; i++) {
                advance();
                set |= 1 << takeNumber(0, MOST_SWITCHES - 1);
            }
            enter(OPEN, depth);
            int inner = policy(depth + 1);
            take(CLOSE);
            return tree.add(Tree.PLACES, set, inner, NONE);
        }

        private int test(int depth) {
            int first = side(depth);
            if (token != OR) {
                return first;
            }
            int last = first;
            for (int i = 0; i < TEXT_ROOM && token == OR; i++) {
                advance();
                int next = side(depth);
                tree.nodes.set(last, Tree.NEXT, next);
                last = next;
            }
            return tree.add(Tree.SOME, first, NONE, NONE);
        }

        private int side(int depth) {
            int first = fact(depth);
            if (token != AND) {
                return first;
            }
            int last = first;
            for (int i = 0; i < TEXT_ROOM && token == AND; i++) {
                advance();
                int next = fact(depth);
                tree.nodes.set(last, Tree.NEXT, next);
                last = next;
            }
            return tree.add(Tree.ALL, first, NONE, NONE);
        }

        private int fact(int depth) {
            int field = token - FROM + 1;
            if (token == NOT) {
                enter(NOT, depth);
                return tree.add(Tree.NOT, fact(depth + 1), NONE, NONE);
            }
            if (token == LEFT) {
                enter(LEFT, depth);
                int inner = test(depth + 1);
                take(RIGHT);
                return inner;
            }
            if (token == ANY) {
                advance();
                return tree.add(Tree.ANY, NONE, NONE, NONE);
            }
            if (token == IN && !inSlice) {
                advance();
                int port = takeNumber(0, MOST_PORT);
                return tree.add(Tree.FACT, PORT, port, port);
            }
            if (token < FROM || token > MARK) {
                refuse();
                return NONE;
            }
            advance();
            take(EQUALS);
            int least = takeNumber(0, mostOf(field));
            int most = least;
            if (token == UP_TO) {
                advance();
                most = takeNumber(least, mostOf(field));
            }
            return tree.add(Tree.FACT, field, least, most);
        }

        private static int mostOf(int field) {
            return field >= 0 && field < FIELDS ? ROW_MOST[field] : 0;
        }

        private void take(int wanted) {
            if (token == wanted) {
                advance();
            } else {
                refuse();
            }
        }

        /** Takes a token that makes the text deeper than it is. */
        private void enter(int wanted, int depth) {
            if (token != wanted) {
                refuse();
            } else if (depth >= DEEPEST) {
                fail(3);
            } else {
                advance();
            }
        }

        private void takeName(long[] names, int howMany) {
            if (token != NAME) {
                refuse();
            } else if (Store.hasName(names, howMany, name)) {
                fail(4);
            } else {
                advance();
            }
        }

        private int takeNumber(int least, int most) {
            int taken = number;
            if (token != NUMBER) {
                refuse();
                return 0;
            }
            if (taken < least || taken > most) {
                fail(6);
                return 0;
            }
            advance();
            return taken;
        }

        private void refuse() {
            fail(token == BAD ? 1 : 2);
        }

        /** Only the first error is kept; no token stands behind it, so that all that is being read ends. */
        private void fail(int kind) {
            if (failKind == 0) {
                failKind = kind;
                failPlace = place;
            }
            token = FAILED;
        }

        private void advance() {
            for (; position < length && position < bytes.length; position++) {
                if (bytes[position] != ' ' && bytes[position] != 10) {
                    break;
                }
            }
            place = position;
            if (token == FAILED) {
                return;
            }
            if (position >= length || position >= bytes.length) {
                token = END;
                return;
            }
            int one = bytes[position];
            if (one >= 'a' && one <= 'z') {
                readWord();
            } else if (one >= '0' && one <= '9') {
                readNumber();
            } else {
                readSign(one);
            }
        }

        private void readWord() {
            name = 0;
            for (; position < length && position < bytes.length; position++) {
                int one = bytes[position];
                if (one < 'a' || one > 'z') {
                    break;
                }
                name = (name << 8) | one;
            }
            token = position - place > LONGEST_NAME ? STRANGE : NAME;
            for (int i = 0; i < WORDS.length && token == NAME; i++) {
                if (WORDS[i] == name) {
                    token = i;
                }
            }
        }

        private void readNumber() {
            number = 0;
            for (; position < length && position < bytes.length; position++) {
                int one = bytes[position];
                if (one < '0' || one > '9') {
                    break;
                }
                number = number > LARGEST ? number : number * 10 + one - '0';
            }
            token = number > LARGEST ? BAD : NUMBER;
        }

        private void readSign(int one) {
            position++;
            int next = position < length && position < bytes.length ? bytes[position] : 0;
            switch (one) {
                case '{':
                    token = OPEN;
                    break;
                case '}':
                    token = CLOSE;
                    break;
                case '(':
                    token = LEFT;
                    break;
                case ')':
                    token = RIGHT;
                    break;
                case ';':
                    token = SEMICOLON;
                    break;
                case ',':
                    token = COMMA;
                    break;
                case '|':
                    token = BAR;
                    break;
                case '=':
                    token = EQUALS;
                    break;
                default:
                    token = one == ':' && next == '=' ? BECOMES : one == '.' && next == '.' ? UP_TO : BAD;
                    position += token == BAD ? 0 : 1;
                    break;
            }
        }
    }

    /** A switch: its table, its stamp list, and the messages that came to it. */
    private static final class Station {
        /** The columns of the table; those that can be asked for first. */
        private static final int TAG = 0, MASK = 1, VALUE = 2, SIZE = 3, COUNTED = 4, POLICY = 5, RULE = 6;
        /** The columns of a message; those that can be asked for first. */
        private static final int KIND = 0, NUMBER = 1, ITS_MASK = 2, ITS_VALUE = 3, ITS_POLICY = 4, ITS_RULE = 5, LIST = 6;

        private final int at;
        private final Store store;
        private final Rows table = new Rows(7, 8);
        private final Rows inbox = new Rows(7, 16);
        private int stamps;
        private int refused;
        private int restarts;

        Station(int at, Store store) {
            this.at = at;
            this.store = store;
        }

        // A stamp list is one number, so that a message keeps it as it was when it was sent: a byte for each entry,
        // the first one lowest, that holds the slice plus 1, the tag, and the policy plus 1.

        static int newEntry(int slice, int tag, int policy) {
            return ((slice + 1) << 5) | (tag << 3) | (policy + 1);
        }

        static int entryOf(int list, int index) {
            return index >= 0 && index < TAGS ? (list >>> (8 * index)) & 255 : 0;
        }

        static int listed(int list) {
            int size = 0;
            while (size < TAGS && entryOf(list, size) != 0) {
                size++;
            }
            return size;
        }

        static int sliceIn(int entry) {
            return (entry >> 5) - 1;
        }

        static int tagIn(int entry) {
            return (entry >> 3) & 3;
        }

        static int policyIn(int entry) {
            return (entry & 7) - 1;
        }

        int reset() {
            int had = table.size();
            table.cutTo(0);
            inbox.cutTo(0);
            stamps = 0;
            refused = 0;
            restarts++;
            return had;
        }

        /** How many messages can be carried out. They are the first ones of the inbox. */
        int ready() {
            int size = inbox.size();
            for (int i = 0; i < size; i++) {
                if (inbox.get(i, KIND) == BARRIER) {
                    return Math.max(1, i);
                }
            }
            return size;
        }

        void post(int kind, int number) {
            inbox.add(kind, number, 0, 0);
        }

        void postList(int list) {
            inbox.set(inbox.add(STAMP, listed(list), 0, 0), LIST, list);
        }

        void postRule(int kind, int tag, int policy, int rule) {
            Rows its = store.policy(policy).rulesFor(at);
            int message = inbox.add(kind, tag, its.get(rule, Policy.MASK), its.get(rule, Policy.VALUE));
            inbox.set(message, ITS_POLICY, policy);
            inbox.set(message, ITS_RULE, rule);
        }

        /** Carries out a message that is no BARRIER. */
        void obey(int message) {
            int number = inbox.get(message, NUMBER);
            switch (inbox.get(message, KIND)) {
                case ADD:
                    addRule(message, number);
                    break;
                case REMOVE:
                    table.removeRow(find(number, inbox.get(message, ITS_MASK), inbox.get(message, ITS_VALUE), 0));
                    break;
                case CLEAR:
                    for (int rule = table.size() - 1; rule >= 0; rule--) {
                        if (table.get(rule, TAG) == number) {
                            table.removeRow(rule);
                        }
                    }
                    break;
                case STAMP:
                    stamps = inbox.get(message, LIST);
                    break;
                default:
                    break;
            }
        }

        private void addRule(int message, int tag) {
            int mask = inbox.get(message, ITS_MASK);
            int value = inbox.get(message, ITS_VALUE);
            int policy = inbox.get(message, ITS_POLICY);
            int number = inbox.get(message, ITS_RULE);
            int rule = find(tag, mask, value, 0);
            if (rule == NONE && table.size() >= TABLE_ROOM) {
                refused++;
                return;
            }
            if (rule == NONE) {
                rule = table.add(tag, mask, value, 0);
            }
            table.set(rule, SIZE, store.policy(policy).actionsOf(at, number));
            table.set(rule, POLICY, policy);
            table.set(rule, RULE, number);
        }

        /** The first rule from a number on with this tag and pattern. */
        private int find(int tag, int mask, int value, int from) {
            for (int i = from; i < table.size(); i++) {
                if (table.get(i, TAG) == tag && table.get(i, MASK) == mask && table.get(i, VALUE) == value) {
                    return i;
                }
            }
            return NONE;
        }

        int match(int tag, int row) {
            for (int i = 0; i < table.size(); i++) {
                if (table.get(i, TAG) == tag && ((row ^ table.get(i, VALUE)) & table.get(i, MASK)) == 0) {
                    return i;
                }
            }
            return NONE;
        }

        int tableFaults() {
            int sum = table.size() > TABLE_ROOM ? 1 : 0;
            for (int i = 0; i < table.size(); i++) {
                int tag = table.get(i, TAG);
                int mask = table.get(i, MASK);
                int value = table.get(i, VALUE);
                if (find(tag, mask, value, 0) != i || find(tag, mask, value, i + 1) != NONE) {
                    sum++;
                }
            }
            return sum;
        }
    }

    /** The controller. What its journal tells is all that it keeps; the rest begins anew when it is started. */
    private static final class Controller {
        /** The columns of an update; those that can be asked for first. BEFORE is the policy that its tag had. */
        private static final int POLICY = 0, MODE = 2, TAG = 3, OUTCOME = 4, BEGUN = 5, OVER = 6, BEFORE = 7;
        /** The columns of an answer. */
        private static final int KIND = 0, FROM = 1, ROUND = 2, REFUSED = 3;

        private final Network network;
        private final Store store;
        private final Station[] stations;
        private final Rows answers = new Rows(4, 16);
        private final Rows updates = new Rows(8, MOST_UPDATES);
        private final int[] tags = new int[TAGS];
        private int phase = IDLE;
        /** The phase that follows ASKING. */
        private int next = IDLE;
        private int round;
        private int answered;
        private int since = NONE;
        private int current = NONE;
        private int list;
        private int toClear;
        private boolean isRefused;
        private boolean isCancelled;
        private boolean isStopped;

        Controller(Network network, Store store, Station[] stations) {
            this.network = network;
            this.store = store;
            this.stations = stations;
            Arrays.fill(tags, NONE);
        }

        // ---- what is asked of it

        boolean wasUsed() {
            return updates.size() > 0;
        }

        /** Whether an update in mode 1 was begun. */
        boolean hasChanged() {
            for (int i = 0; i < updates.size(); i++) {
                if (updates.get(i, MODE) == 1) {
                    return true;
                }
            }
            return false;
        }

        int tell(int what) {
            switch (what) {
                case 0:
                    return phase;
                case 1:
                    return roundNow();
                case 2:
                    return roundNow() == 0 ? 0 : Integer.bitCount(answered);
                case 3:
                    return answers.size();
                case 4:
                    return isStopped ? 1 : 0;
                case 5:
                    return Station.listed(list);
                case 6:
                    return phase == WAITING ? since : NONE;
                case 7:
                    return inUse();
                default:
                    return phase == WAITING || phase == CLEARING ? toClear : 0;
            }
        }

        private int roundNow() {
            return phase == IDLE || phase == WAITING ? 0 : round;
        }

        private int policyOf(int tag) {
            return tag >= 0 && tag < tags.length ? tags[tag] : NONE;
        }

        private void give(int tag, int policy) {
            if (tag >= 0 && tag < tags.length) {
                tags[tag] = policy;
            }
        }

        private int inUse() {
            int set = 0;
            for (int tag = 0; tag < TAGS; tag++) {
                set |= policyOf(tag) != NONE ? 1 << tag : 0;
            }
            return set;
        }

        private int stationCount() {
            return Math.min(network.switches, stations.length);
        }

        // ---- the calls that change it

        boolean canBegin(int slice, int mode) {
            if (network.switches == 0 || isStopped || phase != IDLE || updates.size() >= MOST_UPDATES) {
                return false;
            }
            int used = Integer.bitCount(inUse());
            if (mode == 1) {
                return used == 1;
            }
            return used < (slice == NONE ? TAGS : TAGS - 1);
        }

        int begin(int policy, int slice, int mode) {
            int tag = 0;
            for (int i = TAGS - 1; i >= 0; i--) {
                boolean isUsed = policyOf(i) != NONE;
                tag = isUsed == (mode == 1) ? i : tag;
            }
            current = updates.add(policy, slice, mode, tag);
            updates.set(current, OUTCOME, GOES_ON);
            updates.set(current, BEGUN, network.time);
            updates.set(current, OVER, NONE);
            updates.set(current, BEFORE, policyOf(tag));
            isRefused = false;
            isCancelled = false;
            give(tag, policy);
            if (mode == 1) {
                renewList(tag, policy);
            }
            phase = mode == 1 ? CHANGING : ADDING;
            sendRound();
            return current;
        }

        private void renewList(int tag, int policy) {
            int newList = 0;
            for (int i = TAGS - 1; i >= 0; i--) {
                int entry = Station.entryOf(list, i);
                boolean isIts = entry != 0 && Station.tagIn(entry) == tag;
                newList = (newList << 8) | (isIts ? Station.newEntry(Station.sliceIn(entry), tag, policy) : entry);
            }
            list = newList;
        }

        boolean canCancel() {
            return !isStopped && phase == ADDING && !isCancelled;
        }

        int halt() {
            int lost = answers.size();
            answers.cutTo(0);
            isStopped = true;
            int kept = phase == ASKING ? next : phase;
            if (kept != CLEARING) {
                isRefused = false;
            }
            return lost;
        }

        int wake() {
            isStopped = false;
            if (phase != ASKING) {
                next = phase;
            }
            int following = next;
            phase = ASKING;
            sendRound();
            if (isRoundOver()) {
                // without switches there is no update, so IDLE follows, which has no round
                endAsking();
            }
            return following;
        }

        /** Looks at the time, at a tick. */
        void look() {
            if (!isStopped && phase == WAITING && network.time - since >= WAIT) {
                beginClearing(toClear);
                sendRound();
            }
        }

        // ---- answers

        void greet(int at) {
            for (int i = answers.size() - 1; i >= 0; i--) {
                if (answers.get(i, FROM) == at) {
                    answers.removeRow(i);
                }
            }
            if (!isStopped) {
                answers.add(HELLO, at, 0, 0);
            }
        }

        int carryOut(Station station, int message) {
            int kind = station.inbox.get(message, Station.KIND);
            if (kind == BARRIER) {
                if (!isStopped) {
                    answers.add(DONE, station.at, station.inbox.get(message, Station.NUMBER), station.refused);
                }
                station.refused = 0;
            } else {
                station.obey(message);
            }
            station.inbox.removeRow(message);
            return kind;
        }

        int takeAnswer(int index) {
            int kind = answers.get(index, KIND);
            int from = answers.get(index, FROM);
            int itsRound = answers.get(index, ROUND);
            int itsRefused = answers.get(index, REFUSED);
            answers.removeRow(index);
            if (kind == HELLO) {
                welcome(from);
            } else if (itsRound != 0 && itsRound == roundNow()) {
                answered |= 1 << from;
                if (itsRefused > 0 && (phase == ADDING || phase == CHANGING)) {
                    isRefused = true;
                }
                if (isRoundOver() && (phase == ASKING ? endAsking() : endRound())) {
                    sendRound();
                }
            }
            return kind;
        }

        private void welcome(int at) {
            if (at < 0 || at >= stations.length) {
                return;
            }
            if (phase == ASKING) {
                stations[at].post(BARRIER, round);
            } else {
                bringUp(stations[at], roundNow());
            }
        }

        // ---- phases

        private boolean isRoundOver() {
            int all = (1 << network.switches) - 1;
            return (answered & all) == all;
        }

        /** Ends the round of a phase; tells whether a phase begins that has a round. */
        private boolean endRound() {
            switch (phase) {
                case ADDING:
                    if (isRefused || isCancelled) {
                        beginClearing(1 << updates.get(current, TAG));
                    } else {
                        beginStamping();
                    }
                    return true;
                case STAMPING:
                    endStamping();
                    return false;
                default:
                    endUpdate(isRefused ? WAS_REFUSED : isCancelled ? WAS_CANCELLED : ENDED);
                    return false;
            }
        }

        private void beginStamping() {
            int slice = updates.get(current, 1);
            int entry = Station.newEntry(slice, updates.get(current, TAG), updates.get(current, POLICY));
            list = slice == NONE ? entry : (list << 8) | entry;
            phase = STAMPING;
        }

        private void endStamping() {
            int left = inUse();
            for (int i = 0; i < Station.listed(list); i++) {
                left &= ~(1 << Station.tagIn(Station.entryOf(list, i)));
            }
            if (left == 0) {
                endUpdate(ENDED);
            } else {
                toClear = left;
                phase = WAITING;
                since = network.time;
            }
        }

        private void beginClearing(int set) {
            toClear = set;
            for (int tag = 0; tag < TAGS; tag++) {
                if (((set >> tag) & 1) != 0) {
                    give(tag, NONE);
                }
            }
            phase = CLEARING;
        }

        private void endUpdate(int outcome) {
            updates.set(current, OUTCOME, outcome);
            updates.set(current, OVER, network.time);
            current = NONE;
            toClear = 0;
            phase = IDLE;
        }

        private boolean endAsking() {
            // the round of ASKING is over and the next one has not begun: there is none
            for (int s = 0; s < stationCount(); s++) {
                bringUp(stations[s], 0);
            }
            phase = next;
            since = network.time;
            return phase != IDLE && phase != WAITING;
        }

        // ---- what it sends

        private void sendRound() {
            round++;
            answered = 0;
            int tag = updates.get(current, TAG);
            for (int s = 0; s < stationCount(); s++) {
                Station station = stations[s];
                if (phase == CHANGING) {
                    sendRemovals(station);
                }
                if (phase == ADDING || phase == CHANGING) {
                    sendRules(station, tag);
                }
                if (phase == STAMPING || phase == CHANGING) {
                    station.postList(list);
                }
                for (int i = 0; i < TAGS && phase == CLEARING; i++) {
                    if (((toClear >> i) & 1) != 0) {
                        station.post(CLEAR, i);
                    }
                }
                station.post(BARRIER, round);
            }
        }

        private void sendRules(Station station, int tag) {
            int policy = policyOf(tag);
            int size = store.policy(policy).rulesFor(station.at).size();
            for (int rule = 0; rule < size; rule++) {
                station.postRule(ADD, tag, policy, rule);
            }
        }

        private void sendRemovals(Station station) {
            int tag = updates.get(current, TAG);
            int before = updates.get(current, BEFORE);
            Rows old = store.policy(before).rulesFor(station.at);
            Policy wanted = store.policy(updates.get(current, POLICY));
            for (int rule = 0; rule < old.size(); rule++) {
                int mask = old.get(rule, Policy.MASK);
                if (wanted.withPattern(station.at, mask, old.get(rule, Policy.VALUE)) == NONE) {
                    station.postRule(REMOVE, tag, before, rule);
                }
            }
        }

        private void bringUp(Station station, int itsRound) {
            int last = current != NONE && updates.get(current, MODE) == 0 ? updates.get(current, TAG) : NONE;
            for (int tag = 0; tag < TAGS; tag++) {
                if (tag != last) {
                    sendRules(station, tag);
                }
            }
            if (policyOf(last) != NONE) {
                station.post(BARRIER, 0);
                sendRules(station, last);
            }
            station.postList(list);
            station.post(BARRIER, itsRound);
        }

        // ---- the theorem

        boolean tablesFollowTheorem() {
            for (int s = 0; s < stationCount(); s++) {
                Rows table = stations[s].table;
                for (int i = 0; i < table.size(); i++) {
                    if (!isOwed(s, table, i)) {
                        return false;
                    }
                }
            }
            return true;
        }

        private boolean isOwed(int at, Rows table, int row) {
            int tag = table.get(row, Station.TAG);
            int policy = policyOf(tag);
            if (policy == NONE) {
                int kept = phase == ASKING ? next : phase;
                return kept == CLEARING && ((toClear >> tag) & 1) != 0;
            }
            Policy its = store.policy(table.get(row, Station.POLICY));
            return store.policy(policy).hasRuleOf(at, its, table.get(row, Station.RULE));
        }
    }

    /** The packets and their copies. */
    private static final class Traffic {
        /** The columns of a packet. */
        private static final int HOST = 0, HEADER = 1, TAG = 2, POLICY = 3, COPIES = 4;
        private static final int MOVING = 5, ARRIVED = 6, SHORT = 7, SENT = 8;
        /** The columns of a copy; those that can be asked for first. */
        private static final int STATE = 0, ITS_HEADER = 1, PARENT = 2, OUT = 3, AT = 4, IN = 5, ITS_HOST = 6;
        private static final int LINKS = 7, WHEN = 8, LINK = 9;

        private final Network network;
        private final Store store;
        private final Station[] stations;
        private final Rows packets = new Rows(9, 8);
        private final Rows[] copies = new Rows[MOST_PACKETS];
        private final Rows noCopies = new Rows(1, 1);
        /** All that was delivered, in order: the host, the packet, the copy. */
        private final Rows deliveries = new Rows(3, 16);
        /** How many copies became HANDLED or DELIVERED. */
        private int arrived;

        Traffic(Network network, Store store, Station[] stations) {
            this.network = network;
            this.store = store;
            this.stations = stations;
        }

        Rows copiesOf(int packet) {
            return packet >= 0 && packet < copies.length && copies[packet] != null ? copies[packet] : noCopies;
        }

        // ---- how packets go

        int enter(int host, int header) {
            int place = network.homeOf(host);
            int at = place / PORTS;
            int packet = packets.add(host, header, NONE, NONE);
            if (packet < 0 || packet >= copies.length || at < 0 || at >= stations.length) {
                return NONE;
            }
            packets.set(packet, SENT, network.time);
            packets.set(packet, COPIES, 1);
            stamp(packet, header, stations[at].stamps);
            Rows rows = new Rows(10, 4);
            copies[packet] = rows;
            int copy = rows.add(UNDER_WAY, header, NONE, NONE);
            rows.set(copy, AT, at);
            rows.set(copy, IN, place % PORTS);
            rows.set(copy, ITS_HOST, NONE);
            rows.set(copy, LINK, NONE);
            handle(packet, copy);
            return packet;
        }

        private void stamp(int packet, int header, int list) {
            for (int i = 0; i < Station.listed(list); i++) {
                int entry = Station.entryOf(list, i);
                int slice = Station.sliceIn(entry);
                if (slice == NONE || store.sliceHas(slice, header)) {
                    packets.set(packet, TAG, Station.tagIn(entry));
                    packets.set(packet, POLICY, Station.policyIn(entry));
                    return;
                }
            }
        }

        /** Handles the copies that arrive now. */
        void arriveNow() {
            for (int packet = 0; packet < packets.size(); packet++) {
                Rows rows = copiesOf(packet);
                int size = packets.get(packet, MOVING) > 0 ? rows.size() : 0;
                for (int copy = 0; copy < size; copy++) {
                    if (rows.get(copy, STATE) == UNDER_WAY && rows.get(copy, WHEN) == network.time) {
                        tally(packet, MOVING, -1);
                        handle(packet, copy);
                    }
                }
            }
        }

        private void tally(int packet, int column, int more) {
            packets.set(packet, column, packets.get(packet, column) + more);
        }

        private static int rowOf(Rows rows, int copy) {
            return (rows.get(copy, IN) << HEADER_BITS) | rows.get(copy, ITS_HEADER);
        }

        private void handle(int packet, int copy) {
            Rows rows = copiesOf(packet);
            int at = rows.get(copy, AT);
            int header = rows.get(copy, ITS_HEADER);
            rows.set(copy, WHEN, network.time);
            rows.set(copy, STATE, DROPPED);
            if (at < 0 || at >= stations.length || packets.get(packet, TAG) == NONE) {
                return;
            }
            Rows table = stations[at].table;
            int match = stations[at].match(packets.get(packet, TAG), rowOf(rows, copy));
            if (match == NONE) {
                return;
            }
            rows.set(copy, STATE, HANDLED);
            arrived++;
            table.set(match, Station.COUNTED, table.get(match, Station.COUNTED) + 1);
            Policy policy = store.policy(table.get(match, Station.POLICY));
            int rule = table.get(match, Station.RULE);
            for (int i = 0; i < policy.actionsOf(at, rule); i++) {
                if (policy.makesCopy(at, rule, i, header)) {
                    int card = policy.action(at, rule, i);
                    make(packet, copy, Policy.headerBy(card, header), Policy.fieldOf(card, PORT));
                }
            }
        }

        private void make(int packet, int parent, int header, int port) {
            Rows rows = copiesOf(packet);
            if (rows.size() >= MOST_COPIES) {
                packets.set(packet, SHORT, 1);
                return;
            }
            int place = Network.place(rows.get(parent, AT), port);
            int use = network.useOf(place);
            int copy = rows.add(LOST, header, parent, port);
            rows.set(copy, AT, NONE);
            rows.set(copy, IN, NONE);
            rows.set(copy, ITS_HOST, NONE);
            rows.set(copy, LINK, NONE);
            rows.set(copy, LINKS, rows.get(parent, LINKS));
            rows.set(copy, WHEN, network.time);
            tally(packet, COPIES, 1);
            if (use >= 0) {
                rows.set(copy, STATE, DELIVERED);
                rows.set(copy, ITS_HOST, use);
                deliveries.add(use, packet, copy, 0);
                tally(packet, ARRIVED, 1);
                arrived++;
            } else if (use != NONE) {
                setOff(packet, copy, -2 - use, place);
            }
        }

        private void setOff(int packet, int copy, int link, int place) {
            Rows rows = copiesOf(packet);
            int links = rows.get(copy, LINKS);
            if (network.isDown(link)) {
                rows.set(copy, STATE, CUT);
            } else if (links >= LONGEST_WAY) {
                rows.set(copy, STATE, EXPIRED);
            } else {
                int end = network.farEnd(link, place);
                rows.set(copy, STATE, UNDER_WAY);
                rows.set(copy, AT, end / PORTS);
                rows.set(copy, IN, end % PORTS);
                rows.set(copy, LINKS, links + 1);
                rows.set(copy, WHEN, network.time + network.delayOf(link));
                rows.set(copy, LINK, link);
                tally(packet, MOVING, 1);
            }
        }

        int cutOn(int link) {
            int sum = 0;
            for (int packet = 0; packet < packets.size(); packet++) {
                Rows rows = copiesOf(packet);
                int size = packets.get(packet, MOVING) > 0 ? rows.size() : 0;
                for (int copy = 0; copy < size; copy++) {
                    if (rows.get(copy, STATE) == UNDER_WAY && rows.get(copy, LINK) == link) {
                        rows.set(copy, STATE, CUT);
                        rows.set(copy, AT, NONE);
                        rows.set(copy, IN, NONE);
                        rows.set(copy, WHEN, network.time);
                        tally(packet, MOVING, -1);
                        sum++;
                    }
                }
            }
            return sum;
        }

        // ---- what can be asked

        /** The sum of a column over all packets. */
        int sum(int column) {
            int sum = 0;
            for (int packet = 0; packet < packets.size(); packet++) {
                sum += packets.get(packet, column);
            }
            return sum;
        }

        int deliveryRow(int host, int index) {
            int left = index;
            for (int i = 0; i < deliveries.size() && left >= 0; i++) {
                if (deliveries.get(i, 0) == host) {
                    if (left == 0) {
                        return i;
                    }
                    left--;
                }
            }
            return NONE;
        }

        int deliveryTold(int row, int what) {
            int packet = deliveries.get(row, 1);
            int copy = deliveries.get(row, 2);
            if (what < 2) {
                return what == 0 ? packet : copy;
            }
            return copiesOf(packet).get(copy, what == 2 ? ITS_HEADER : WHEN);
        }

        boolean goesBy(int packet, Policy policy) {
            Rows rows = copiesOf(packet);
            for (int copy = 0; copy < rows.size(); copy++) {
                if (rows.get(copy, STATE) == HANDLED && !madeJust(packet, copy, policy)) {
                    return false;
                }
            }
            return true;
        }

        /** Whether a copy that was handled made just what a policy makes of it. */
        private boolean madeJust(int packet, int copy, Policy policy) {
            Rows rows = copiesOf(packet);
            int at = rows.get(copy, AT);
            int header = rows.get(copy, ITS_HEADER);
            int rule = policy.fit(at, ROWS - 1, rowOf(rows, copy));
            int child = nextChild(rows, copy, copy);
            for (int i = 0; i < policy.actionsOf(at, rule); i++) {
                if (!policy.makesCopy(at, rule, i, header)) {
                    continue;
                }
                if (child == NONE) {
                    return packets.get(packet, SHORT) == 1;
                }
                int card = policy.action(at, rule, i);
                if (rows.get(child, OUT) != Policy.fieldOf(card, PORT)
                        || rows.get(child, ITS_HEADER) != Policy.headerBy(card, header)) {
                    return false;
                }
                child = nextChild(rows, copy, child);
            }
            return child == NONE;
        }

        private static int nextChild(Rows rows, int parent, int behind) {
            for (int copy = behind + 1; copy < rows.size(); copy++) {
                if (rows.get(copy, PARENT) == parent) {
                    return copy;
                }
            }
            return NONE;
        }

        boolean nothingMissing(int packet) {
            int number = packets.get(packet, POLICY);
            Policy policy = store.policy(number);
            if (number == NONE || packets.get(packet, SHORT) == 1 || !goesBy(packet, policy)) {
                return false;
            }
            Rows rows = copiesOf(packet);
            for (int copy = 0; copy < rows.size(); copy++) {
                int state = rows.get(copy, STATE);
                if (state == CUT) {
                    return false;
                }
                if (state == DROPPED && policy.fit(rows.get(copy, AT), ROWS - 1, rowOf(rows, copy)) != NONE) {
                    return false;
                }
            }
            return true;
        }

        int packetsByNone() {
            int sum = 0;
            for (int packet = 0; packet < packets.size(); packet++) {
                boolean goesBySome = false;
                for (int i = 0; i < store.policyCount && !goesBySome; i++) {
                    goesBySome = goesBy(packet, store.policy(i));
                }
                sum += goesBySome ? 0 : 1;
            }
            return sum;
        }

        int packetsMissing() {
            int sum = 0;
            for (int packet = 0; packet < packets.size(); packet++) {
                sum += nothingMissing(packet) ? 0 : 1;
            }
            return sum;
        }

        boolean followsTheorem() {
            for (int packet = 0; packet < packets.size(); packet++) {
                Rows rows = copiesOf(packet);
                int policy = packets.get(packet, POLICY);
                boolean holds = policy == NONE
                        ? rows.size() == 1 && rows.get(0, STATE) == DROPPED
                        : goesBy(packet, store.policy(policy));
                if (!holds) {
                    return false;
                }
            }
            return true;
        }

        int strandedCopies() {
            int sum = 0;
            for (int packet = 0; packet < packets.size(); packet++) {
                Rows rows = copiesOf(packet);
                for (int copy = 0; copy < rows.size(); copy++) {
                    boolean isMoving = rows.get(copy, STATE) == UNDER_WAY;
                    if (isMoving && (network.isDown(rows.get(copy, LINK)) || rows.get(copy, WHEN) <= network.time)) {
                        sum++;
                    }
                }
            }
            return sum;
        }
    }

    /**
     * Walks headers by a policy. It walks all headers that agree in some known bits at once, and splits them in two
     * where a further bit matters: a bit of a copy that no action wrote is that of the header that was sent.
     */
    private static final class Walk {
        private static final int TO_REACH = 0, TO_AVOID = 1, TO_STRAY = 2, TO_LIST = 3;
        /** The columns of a copy that arrives at a switch: its place, bits, way, and the switches that it was at. */
        private static final int PLACE = 0, KNOWN = 1, VALUE = 2, LINKS = 3, SEEN = 4;

        private final Network network;
        private final Rows queue = new Rows(5, 8);
        /** The copies that were delivered: host, known bits, value. */
        private Rows ends = new Rows(3, 8);
        private Rows otherEnds = new Rows(3, 8);
        private int made;
        /** A bit that must be known; 0 if there is none. */
        private int need;
        private boolean isFound;
        private int goal;
        private int goalHost;
        private int goalSwitch;
        private int least;

        Walk(Network network) {
            this.network = network;
        }

        int reaching(Policy policy, int from, int to) {
            goal = TO_REACH;
            goalHost = to;
            return countIn(policy, from, 0, 0, 0);
        }

        int avoiding(Policy policy, int from, int to, int past) {
            goal = TO_AVOID;
            goalHost = to;
            goalSwitch = past;
            return countIn(policy, from, 0, 0, 0);
        }

        int straying(Policy policy, int from) {
            goal = TO_STRAY;
            return countIn(policy, from, 0, 0, 0);
        }

        int leastDifference(Policy policy, Policy other, int from) {
            goal = TO_LIST;
            least = HEADERS;
            seekIn(policy, other, from, 0, 0, 0);
            return least < HEADERS ? least : NONE;
        }

        /** How many of the headers with these known bits reach the goal. */
        private int countIn(Policy policy, int from, int known, int value, int depth) {
            go(policy, from, known, value);
            if (isFound) {
                return HEADERS >> Integer.bitCount(known);
            }
            if (need == 0 || depth >= HEADER_BITS) {
                return 0;
            }
            int bit = need;
            return countIn(policy, from, known | bit, value, depth + 1)
                    + countIn(policy, from, known | bit, value | bit, depth + 1);
        }

        /** Finds the least one of the headers with these known bits for which the policies differ. */
        private void seekIn(Policy policy, Policy other, int from, int known, int value, int depth) {
            if (value >= least) {
                return;
            }
            go(policy, from, known, value);
            Rows kept = ends;
            ends = otherEnds;
            otherEnds = kept;
            if (need == 0) {
                go(other, from, known, value);
            }
            boolean areSame = need == 0 && hasAll(ends, otherEnds) && hasAll(otherEnds, ends);
            if (need != 0 && depth < HEADER_BITS) {
                int bit = need;
                seekIn(policy, other, from, known | bit, value, depth + 1);
                seekIn(policy, other, from, known | bit, value | bit, depth + 1);
            } else if (!areSame) {
                least = value;
            }
        }

        private void go(Policy policy, int from, int known, int value) {
            queue.cutTo(0);
            ends.cutTo(0);
            made = 1;
            need = 0;
            isFound = false;
            queue.add(network.homeOf(from), known, value, 0);
            for (int i = 0; i < queue.size() && i < MOST_COPIES && need == 0 && !isFound; i++) {
                handle(policy, i);
            }
        }

        private void handle(Policy policy, int copy) {
            int place = queue.get(copy, PLACE);
            int at = place / PORTS;
            int known = queue.get(copy, KNOWN);
            int value = queue.get(copy, VALUE);
            int portBits = ROW_MOST[PORT] << HEADER_BITS;
            int rule = policy.fit(at, known | portBits, value | ((place % PORTS) << HEADER_BITS));
            if (rule < NONE) {
                need = NONE - rule;
            }
            for (int i = 0; i < policy.actionsOf(at, rule) && need == 0 && !isFound; i++) {
                if (isNew(policy, at, rule, i, known, value)) {
                    int card = policy.action(at, rule, i);
                    make(copy, Network.place(at, Policy.fieldOf(card, PORT)), known | Policy.writtenBy(card),
                            Policy.headerBy(card, value));
                }
            }
        }

        /** Whether no action ahead makes the same copy; if this can't be told, a bit is needed. */
        private boolean isNew(Policy policy, int at, int rule, int index, int known, int value) {
            int card = policy.action(at, rule, index);
            for (int i = 0; i < index && i < WIDEST; i++) {
                int ahead = policy.action(at, rule, i);
                if (Policy.fieldOf(ahead, PORT) == Policy.fieldOf(card, PORT)) {
                    int told = compare(known | Policy.writtenBy(ahead), Policy.headerBy(ahead, value),
                            known | Policy.writtenBy(card), Policy.headerBy(card, value));
                    if (told != NONE) {
                        need = told;
                        return false;
                    }
                }
            }
            return true;
        }

        /** 0 if two headers are the same, NONE if not, otherwise a bit that must be known to tell. */
        private static int compare(int known, int value, int otherKnown, int otherValue) {
            if (((value ^ otherValue) & known & otherKnown) != 0) {
                return NONE;
            }
            return Policy.highest(known ^ otherKnown);
        }

        private void make(int parent, int place, int known, int value) {
            if (made >= MOST_COPIES) {
                isFound = goal == TO_STRAY;
                return;
            }
            made++;
            int use = network.useOf(place);
            int at = place / PORTS;
            int seen = queue.get(parent, SEEN) | (1 << at);
            int links = queue.get(parent, LINKS);
            if (use >= 0) {
                ends.add(use, known, value, 0);
                boolean wasPast = goal == TO_AVOID && ((seen >> goalSwitch) & 1) != 0;
                isFound = (goal == TO_REACH || goal == TO_AVOID) && use == goalHost && !wasPast;
            } else if (use == NONE || links >= LONGEST_WAY) {
                isFound = goal == TO_STRAY;
            } else {
                int copy = queue.add(network.farEnd(-2 - use, place), known, value, links + 1);
                queue.set(copy, SEEN, seen);
            }
        }

        /** Whether all that is delivered in one list is so in the other; if this can't be told, a bit is needed. */
        private boolean hasAll(Rows wanted, Rows there) {
            for (int i = 0; i < wanted.size(); i++) {
                int told = NONE;
                for (int j = 0; j < there.size() && told != 0; j++) {
                    if (wanted.get(i, 0) == there.get(j, 0)) {
                        int one = compare(wanted.get(i, 1), wanted.get(i, 2), there.get(j, 1), there.get(j, 2));
                        told = one == NONE ? told : one;
                    }
                }
                if (told != 0) {
                    need = Math.max(0, told);
                    return false;
                }
            }
            return true;
        }
    }
}
