/**
 * Inspection rounds of bridges. ../shared/DOC.md says what each call does and answers; its numbered
 * promises are the methods below, in its order.
 *
 * All rows are made with the object and used again, so that no call makes anything.
 */
public final class BridgeRounds {
    public static final int NONE = -1, BAD_INDEX = -2, BAD_VALUE = -3, BAD_STATE = -4, FULL = -5;

    private static final int MAX_TOWNS = 10;
    private static final int MAX_ROADS = 20;
    private static final int MAX_LENGTH = 99;
    private static final int MAX_BRIDGES = 6;
    private static final int MAX_COMPONENTS = 6;
    private static final int KINDS = 4;
    private static final int MAX_RATING = 9;
    private static final int MAX_RATE = 60;
    private static final int MAX_WEAR = 100;
    private static final int GROUND = 64;
    private static final int MAX_YEARS = 50;
    private static final int LAST_YEAR = 1000;
    private static final int FORESEEN_YEARS = 1000;
    private static final int MAX_WEIGHT = 60;
    private static final int CREW_WEIGHT = 12;
    private static final int MAX_HOURS = 200;
    private static final int HOURS_TO_INSPECT = 4;
    private static final int LENGTH_OF_AN_HOUR = 10;
    private static final int INSPECTION_COST = 5;
    private static final int DETOUR_BASE = 1000;
    private static final int MAX_LINES = 8;
    private static final int MAX_POINTS = 9;
    private static final int MAX_BIDDERS = 3;
    private static final int MAX_FEE = 999;
    private static final int MAX_PRICE = 99;
    private static final int MAX_KEPT = 5;
    private static final int MAX_TEXT = 100;
    private static final int MAX_BYTE = 255;
    private static final int MAX_DIGITS = 2;
    // Longer than every way, and far from an overflow when a road's length is added.
    private static final int UNREACHED = 1000000;

    private final State now = new State();
    private final State supposed = new State();
    private final History history = new History();
    private final RoadText text = new RoadText();
    private final Frame frame = new Frame();
    private final Ways ways = new Ways();
    private final Tour tour = new Tour();
    private final Award best = new Award();

    // Promise 1
    public BridgeRounds() {
    }

    // ---- map: promises 2 to 13

    public int addTowns(int many) {
        if (!within(many, 1, MAX_TOWNS)) {
            return BAD_VALUE;
        }
        if (now.roads.towns + many > MAX_TOWNS) {
            return FULL;
        }
        history.keep(now);
        now.roads.towns += many;
        return now.roads.towns;
    }

    public int addRoad(int one, int other, int length) {
        if (!now.roads.hasTown(one) || !now.roads.hasTown(other)) {
            return BAD_INDEX;
        }
        if (one == other || !within(length, 1, MAX_LENGTH)) {
            return BAD_VALUE;
        }
        if (now.roads.many >= MAX_ROADS) {
            return FULL;
        }
        history.keep(now);
        return now.roads.join(one, other, length);
    }

    public int addBridge(int road) {
        if (!now.roads.hasRoad(road)) {
            return BAD_INDEX;
        }
        if (now.roads.bridge[road] != NONE) {
            return BAD_STATE;
        }
        if (now.bridges.many >= MAX_BRIDGES) {
            return FULL;
        }
        history.keep(now);
        return now.build(road);
    }

    public int addComponent(int bridge, int kind, int rating, int rate) {
        if (!now.bridges.hasBridge(bridge)) {
            return BAD_INDEX;
        }
        if (!within(kind, 0, KINDS - 1) || !within(rating, 0, MAX_RATING) || !within(rate, 0, MAX_RATE)) {
            return BAD_VALUE;
        }
        if (now.bridges.components[bridge] >= MAX_COMPONENTS) {
            return FULL;
        }
        history.keep(now);
        return now.bridges.fit(bridge, kind, rating, rate);
    }

    public int rest(int bridge, int component, int on) {
        if (!now.bridges.hasComponent(bridge, component)) {
            return BAD_INDEX;
        }
        if (on != NONE && !now.bridges.hasComponent(bridge, on)) {
            return BAD_INDEX;
        }
        if (on != NONE && on <= component) {
            return BAD_VALUE;
        }
        history.keep(now);
        int member = on == NONE ? GROUND : 1 << on;
        return now.bridges.turnRest(bridge, component, member) ? 1 : 0;
    }

    public int setRating(int bridge, int component, int rating) {
        if (!now.bridges.hasComponent(bridge, component)) {
            return BAD_INDEX;
        }
        if (!within(rating, 0, MAX_RATING)) {
            return BAD_VALUE;
        }
        history.keep(now);
        int place = Bridges.place(bridge, component);
        int previous = now.bridges.rating[place];
        now.bridges.renew(place, rating);
        return previous;
    }

    public int close(int bridge, boolean closed) {
        if (!now.bridges.hasBridge(bridge)) {
            return BAD_INDEX;
        }
        history.keep(now);
        boolean before = now.bridges.closed[bridge];
        now.bridges.closed[bridge] = closed;
        return before ? 1 : 0;
    }

    public int count(int what) {
        switch (what) {
            case 0:
                return now.roads.towns;
            case 1:
                return now.roads.many;
            case 2:
                return now.bridges.many;
            case 3:
                return now.repairs.lines;
            case 4:
                return now.repairs.bidders;
            case 5:
                return now.year;
            case 6:
                return now.inspections;
            case 7:
                return now.spentForInspections;
            case 8:
                return now.spentForRepairs;
            case 9:
                return now.dueBridges();
            case 10:
                return frame.overrated(now.bridges);
            default:
                return BAD_VALUE;
        }
    }

    public int road(int road, int what) {
        if (!now.roads.hasRoad(road)) {
            return BAD_INDEX;
        }
        switch (what) {
            case 0:
                return now.roads.one[road];
            case 1:
                return now.roads.other[road];
            case 2:
                return now.roads.length[road];
            case 3:
                return now.roads.bridge[road];
            default:
                return BAD_VALUE;
        }
    }

    public int bridge(int bridge, int what) {
        if (!now.bridges.hasBridge(bridge)) {
            return BAD_INDEX;
        }
        switch (what) {
            case 0:
                return now.bridges.road[bridge];
            case 1:
                return now.bridges.components[bridge];
            case 2:
                return frame.trueRating(now.bridges, bridge);
            case 3:
                return now.bridges.told[bridge];
            case 4:
                return now.bridges.seen[bridge];
            case 5:
                return now.bridges.dueYear(bridge);
            case 6:
                return now.isDue(bridge) ? 1 : 0;
            case 7:
                return now.bridges.closed[bridge] ? 1 : 0;
            case 8:
                return now.bridges.post(bridge);
            default:
                return BAD_VALUE;
        }
    }

    public int component(int bridge, int component, int what) {
        if (!now.bridges.hasComponent(bridge, component)) {
            return BAD_INDEX;
        }
        int place = Bridges.place(bridge, component);
        switch (what) {
            case 0:
                return now.bridges.kind[place];
            case 1:
                return now.bridges.rating[place];
            case 2:
                return now.bridges.wear[place];
            case 3:
                return now.bridges.rate[place];
            case 4:
                frame.trueRating(now.bridges, bridge);
                return frame.strength[component];
            case 5:
                return now.bridges.rests[place];
            default:
                return BAD_VALUE;
        }
    }

    public int weak(int bridge) {
        if (!now.bridges.hasBridge(bridge)) {
            return BAD_INDEX;
        }
        return frame.weakOnes(now.bridges, bridge);
    }

    // ---- years and inspections: promises 14 to 18

    public int pass(int years) {
        if (!within(years, 1, MAX_YEARS)) {
            return BAD_VALUE;
        }
        if (now.year + years > LAST_YEAR) {
            return FULL;
        }
        history.keep(now);
        now.year += years;
        now.bridges.grow(years);
        return now.year;
    }

    public int inspect(int bridge) {
        if (!now.bridges.hasBridge(bridge)) {
            return BAD_INDEX;
        }
        history.keep(now);
        now.lookAt(bridge, frame.trueRating(now.bridges, bridge));
        return now.bridges.told[bridge];
    }

    public int round(int start, int hours) {
        if (!now.roads.hasTown(start)) {
            return BAD_INDEX;
        }
        if (!within(hours, 1, MAX_HOURS)) {
            return BAD_VALUE;
        }
        history.keep(now);
        tour.go(now, ways, frame, start, hours);
        return tour.many;
    }

    public int ofRound(int start, int hours, int index) {
        if (!now.roads.hasTown(start)) {
            return BAD_INDEX;
        }
        if (!within(hours, 1, MAX_HOURS) || index < 0) {
            return BAD_VALUE;
        }
        supposed.copyFrom(now);
        tour.go(supposed, ways, frame, start, hours);
        return index < tour.many ? tour.order[index] : NONE;
    }

    public int weakensIn(int bridge) {
        if (!now.bridges.hasBridge(bridge)) {
            return BAD_INDEX;
        }
        return frame.yearsToLess(now.bridges, bridge);
    }

    // ---- ways: promises 19 to 22

    public int way(int from, int to, int weight) {
        if (!now.roads.hasTown(from) || !now.roads.hasTown(to)) {
            return BAD_INDEX;
        }
        if (!within(weight, 1, MAX_WEIGHT)) {
            return BAD_VALUE;
        }
        ways.measure(now, from, weight, NONE);
        return ways.reaches(to) ? ways.far[to] : NONE;
    }

    public int wayTown(int from, int to, int weight, int index) {
        if (!now.roads.hasTown(from) || !now.roads.hasTown(to)) {
            return BAD_INDEX;
        }
        if (!within(weight, 1, MAX_WEIGHT) || index < 0) {
            return BAD_VALUE;
        }
        ways.measure(now, from, weight, NONE);
        int towns = ways.trace(now, from, to, weight);
        return index < towns ? ways.back[towns - 1 - index] : NONE;
    }

    public int detour(int bridge, int weight) {
        if (!now.bridges.hasBridge(bridge)) {
            return BAD_INDEX;
        }
        if (!within(weight, 1, MAX_WEIGHT)) {
            return BAD_VALUE;
        }
        int road = now.bridges.road[bridge];
        int to = now.roads.other[road];
        ways.measure(now, now.roads.one[road], weight, road);
        return ways.reaches(to) ? DETOUR_BASE + ways.far[to] - now.roads.length[road] : NONE;
    }

    public int heaviest(int from, int to) {
        if (!now.roads.hasTown(from) || !now.roads.hasTown(to)) {
            return BAD_INDEX;
        }
        if (from == to) {
            return BAD_STATE;
        }
        int weight = ways.heaviestLoad(now, from, to);
        return weight > 0 ? weight : NONE;
    }

    // ---- repairs: promises 23 to 30

    public int addBidder(int fee, int price0, int price1, int price2, int price3) {
        if (!within(fee, 0, MAX_FEE) || !isPrice(price0) || !isPrice(price1)
                || !isPrice(price2) || !isPrice(price3)) {
            return BAD_VALUE;
        }
        if (now.repairs.bidders >= MAX_BIDDERS) {
            return FULL;
        }
        history.keep(now);
        return now.repairs.admit(fee, price0, price1, price2, price3);
    }

    public int addLine(int bridge, int component, int points) {
        if (!now.bridges.hasComponent(bridge, component)) {
            return BAD_INDEX;
        }
        if (!within(points, 1, MAX_POINTS)) {
            return BAD_VALUE;
        }
        if (now.repairs.lines >= MAX_LINES) {
            return FULL;
        }
        history.keep(now);
        return now.repairs.put(bridge, component, points);
    }

    public int clearLines() {
        history.keep(now);
        int before = now.repairs.lines;
        now.repairs.lines = 0;
        return before;
    }

    public int line(int line, int what) {
        if (!now.repairs.hasLine(line)) {
            return BAD_INDEX;
        }
        switch (what) {
            case 0:
                return now.repairs.bridge[line];
            case 1:
                return now.repairs.component[line];
            case 2:
                return now.repairs.points[line];
            case 3:
                best.settle(now);
                return best.taker[line];
            default:
                return BAD_VALUE;
        }
    }

    public int bidder(int bidder, int what) {
        if (!now.repairs.hasBidder(bidder)) {
            return BAD_INDEX;
        }
        if (within(what, 1, KINDS)) {
            return now.repairs.price[bidder * KINDS + what - 1];
        }
        switch (what) {
            case 0:
                return now.repairs.fee[bidder];
            case 5:
                best.settle(now);
                return best.pay(now, bidder);
            case 6:
                return now.costOfAllBy(bidder);
            default:
                return BAD_VALUE;
        }
    }

    public int award() {
        best.settle(now);
        return best.cost;
    }

    public int ratingBehind(int bridge) {
        if (!now.bridges.hasBridge(bridge)) {
            return BAD_INDEX;
        }
        return frame.ratingRepaired(now, bridge);
    }

    public int repair() {
        best.settle(now);
        if (best.cost == NONE) {
            return BAD_STATE;
        }
        history.keep(now);
        now.spentForRepairs += best.cost;
        now.carryOutLines();
        return best.cost;
    }

    public int undo() {
        if (!history.restore(now)) {
            return BAD_STATE;
        }
        return history.many;
    }

    // ---- text: promises 32 to 35

    public int type(int code) {
        if (!within(code, 0, MAX_BYTE)) {
            return BAD_VALUE;
        }
        if (text.length >= MAX_TEXT) {
            return FULL;
        }
        text.bytes[text.length] = code;
        text.length++;
        return text.length;
    }

    public int clearText() {
        int before = text.length;
        text.length = 0;
        return before;
    }

    public int textFault() {
        return text.read(now);
    }

    public int lay() {
        if (text.read(now) != NONE) {
            return BAD_STATE;
        }
        history.keep(now);
        for (int i = 0; i < text.roads; i++) {
            int road = now.roads.join(text.one[i], text.other[i], text.far[i]);
            if (text.bridged[i]) {
                now.build(road);
            }
        }
        return now.roads.many;
    }

    // ---- digest: promise 36

    public long digest() {
        long h = 17;
        for (int what = 0; what <= 10; what++) {
            h = 31 * h + count(what);
        }
        for (int road = 0; road < now.roads.many; road++) {
            for (int what = 0; what <= 3; what++) {
                h = 31 * h + road(road, what);
            }
        }
        for (int bridge = 0; bridge < now.bridges.many; bridge++) {
            h = withBridge(h, bridge);
        }
        for (int line = 0; line < now.repairs.lines; line++) {
            for (int what = 0; what <= 3; what++) {
                h = 31 * h + line(line, what);
            }
        }
        for (int bidder = 0; bidder < now.repairs.bidders; bidder++) {
            for (int what = 0; what <= 6; what++) {
                h = 31 * h + bidder(bidder, what);
            }
        }
        return h;
    }

    private long withBridge(long before, int bridge) {
        long h = before;
        for (int what = 0; what <= 8; what++) {
            h = 31 * h + bridge(bridge, what);
        }
        for (int component = 0; component < now.bridges.components[bridge]; component++) {
            for (int what = 0; what <= 5; what++) {
                h = 31 * h + component(bridge, component, what);
            }
        }
        return h;
    }

    private static boolean within(int value, int least, int most) {
        return least <= value && value <= most;
    }

    private static boolean isPrice(int price) {
        return within(price, 1, MAX_PRICE);
    }

    /** The towns, and the roads between them. */
    private static final class Roads {
        private int towns;
        private int many;
        private final int[] one = new int[MAX_ROADS];
        private final int[] other = new int[MAX_ROADS];
        private final int[] length = new int[MAX_ROADS];
        private final int[] bridge = new int[MAX_ROADS];

        private boolean hasTown(int town) {
            return 0 <= town && town < towns;
        }

        private boolean hasRoad(int road) {
            return 0 <= road && road < many;
        }

        /** Adds a road for which there is room. */
        private int join(int from, int to, int far) {
            int road = many;
            one[road] = from;
            other[road] = to;
            length[road] = far;
            bridge[road] = NONE;
            many++;
            return road;
        }

        private void copyFrom(Roads from) {
            towns = from.towns;
            many = from.many;
            System.arraycopy(from.one, 0, one, 0, MAX_ROADS);
            System.arraycopy(from.other, 0, other, 0, MAX_ROADS);
            System.arraycopy(from.length, 0, length, 0, MAX_ROADS);
            System.arraycopy(from.bridge, 0, bridge, 0, MAX_ROADS);
        }
    }

    /** The bridges; what belongs to a component stands in the last five rows, at its place. */
    private static final class Bridges {
        private static final int PLACES = MAX_BRIDGES * MAX_COMPONENTS;

        private int many;
        private final int[] road = new int[MAX_BRIDGES];
        private final int[] told = new int[MAX_BRIDGES];
        private final int[] seen = new int[MAX_BRIDGES];
        private final boolean[] closed = new boolean[MAX_BRIDGES];
        private final int[] components = new int[MAX_BRIDGES];
        private final int[] kind = new int[PLACES];
        private final int[] rating = new int[PLACES];
        private final int[] wear = new int[PLACES];
        private final int[] rate = new int[PLACES];
        private final int[] rests = new int[PLACES];

        private static int place(int bridge, int component) {
            return bridge * MAX_COMPONENTS + component;
        }

        private boolean hasBridge(int bridge) {
            return 0 <= bridge && bridge < many;
        }

        private boolean hasComponent(int bridge, int component) {
            return hasBridge(bridge) && 0 <= component && component < components[bridge];
        }

        /** Adds a bridge for which there is room. */
        private int start(int onRoad, int year) {
            int bridge = many;
            road[bridge] = onRoad;
            told[bridge] = 0;
            seen[bridge] = year;
            closed[bridge] = false;
            components[bridge] = 0;
            many++;
            return bridge;
        }

        /** Adds a component for which there is room. */
        private int fit(int bridge, int ofKind, int rated, int wearing) {
            int component = components[bridge];
            int place = place(bridge, component);
            kind[place] = ofKind;
            rating[place] = rated;
            wear[place] = 0;
            rate[place] = wearing;
            rests[place] = 0;
            components[bridge]++;
            return component;
        }

        private boolean turnRest(int bridge, int component, int member) {
            int place = place(bridge, component);
            rests[place] ^= member;
            return (rests[place] & member) != 0;
        }

        private void renew(int place, int rated) {
            rating[place] = rated;
            wear[place] = 0;
        }

        // A rate is below 100, so a year takes at most one point: years can be taken together.
        private int ratingAfter(int place, int years) {
            return Math.max(0, rating[place] - (wear[place] + years * rate[place]) / MAX_WEAR);
        }

        private void grow(int years) {
            for (int bridge = 0; bridge < many; bridge++) {
                for (int component = 0; component < components[bridge]; component++) {
                    int place = place(bridge, component);
                    rating[place] = ratingAfter(place, years);
                    wear[place] = (wear[place] + years * rate[place]) % MAX_WEAR;
                }
            }
        }

        private int dueYear(int bridge) {
            int rated = told[bridge];
            int years = rated >= 7 ? 4 : rated >= 5 ? 2 : 1;
            return seen[bridge] + years;
        }

        private int post(int bridge) {
            return closed[bridge] ? 0 : postFor(told[bridge]);
        }

        private static int postFor(int rated) {
            switch (rated) {
                case 0:
                    return 0;
                case 1:
                case 2:
                    return 3;
                case 3:
                    return 7;
                case 4:
                    return 12;
                case 5:
                    return 20;
                case 6:
                    return 28;
                case 7:
                    return 40;
                default:
                    return 60;
            }
        }

        private void copyFrom(Bridges from) {
            many = from.many;
            System.arraycopy(from.road, 0, road, 0, MAX_BRIDGES);
            System.arraycopy(from.told, 0, told, 0, MAX_BRIDGES);
            System.arraycopy(from.seen, 0, seen, 0, MAX_BRIDGES);
            System.arraycopy(from.components, 0, components, 0, MAX_BRIDGES);
            System.arraycopy(from.kind, 0, kind, 0, PLACES);
            System.arraycopy(from.rating, 0, rating, 0, PLACES);
            System.arraycopy(from.wear, 0, wear, 0, PLACES);
            System.arraycopy(from.rate, 0, rate, 0, PLACES);
            System.arraycopy(from.rests, 0, rests, 0, PLACES);
            for (int bridge = 0; bridge < MAX_BRIDGES; bridge++) {
                closed[bridge] = from.closed[bridge];
            }
        }
    }

    /** The lines of repairs, and the bidders. */
    private static final class Repairs {
        private static final int PRICES = MAX_BIDDERS * KINDS;

        private int lines;
        private int bidders;
        private final int[] bridge = new int[MAX_LINES];
        private final int[] component = new int[MAX_LINES];
        private final int[] points = new int[MAX_LINES];
        private final int[] fee = new int[MAX_BIDDERS];
        private final int[] price = new int[PRICES];

        private boolean hasLine(int line) {
            return 0 <= line && line < lines;
        }

        private boolean hasBidder(int bidder) {
            return 0 <= bidder && bidder < bidders;
        }

        /** Adds a bidder for whom there is room. */
        private int admit(int fixed, int price0, int price1, int price2, int price3) {
            int bidder = bidders;
            int first = bidder * KINDS;
            fee[bidder] = fixed;
            price[first] = price0;
            price[first + 1] = price1;
            price[first + 2] = price2;
            price[first + 3] = price3;
            bidders++;
            return bidder;
        }

        /** Adds a line for which there is room. */
        private int put(int ofBridge, int ofComponent, int by) {
            int line = lines;
            bridge[line] = ofBridge;
            component[line] = ofComponent;
            points[line] = by;
            lines++;
            return line;
        }

        private void copyFrom(Repairs from) {
            lines = from.lines;
            bidders = from.bidders;
            System.arraycopy(from.bridge, 0, bridge, 0, MAX_LINES);
            System.arraycopy(from.component, 0, component, 0, MAX_LINES);
            System.arraycopy(from.points, 0, points, 0, MAX_LINES);
            System.arraycopy(from.fee, 0, fee, 0, MAX_BIDDERS);
            System.arraycopy(from.price, 0, price, 0, PRICES);
        }
    }

    /** All that the history keeps. */
    private static final class State {
        private final Roads roads = new Roads();
        private final Bridges bridges = new Bridges();
        private final Repairs repairs = new Repairs();
        private int year;
        private int inspections;
        private int spentForInspections;
        private int spentForRepairs;

        /** Builds a bridge for which there is room on a road that carries none. */
        private int build(int road) {
            int bridge = bridges.start(road, year);
            roads.bridge[road] = bridge;
            return bridge;
        }

        private boolean isDue(int bridge) {
            return year >= bridges.dueYear(bridge);
        }

        private int dueBridges() {
            int due = 0;
            for (int bridge = 0; bridge < bridges.many; bridge++) {
                if (isDue(bridge)) {
                    due++;
                }
            }
            return due;
        }

        private void lookAt(int bridge, int found) {
            bridges.told[bridge] = found;
            bridges.seen[bridge] = year;
            inspections++;
            spentForInspections += INSPECTION_COST + bridges.components[bridge];
        }

        /** The weight up to which a vehicle can use a road. */
        private int limit(int road) {
            int bridge = roads.bridge[road];
            return bridges.hasBridge(bridge) ? bridges.post(bridge) : MAX_WEIGHT;
        }

        private int costOf(int line, int bidder) {
            int place = Bridges.place(repairs.bridge[line], repairs.component[line]);
            return repairs.points[line] * repairs.price[bidder * KINDS + bridges.kind[place]];
        }

        private int costOfAllBy(int bidder) {
            int cost = repairs.lines == 0 ? 0 : repairs.fee[bidder];
            for (int line = 0; line < repairs.lines; line++) {
                cost += costOf(line, bidder);
            }
            return cost;
        }

        private void carryOutLines() {
            for (int line = 0; line < repairs.lines; line++) {
                int place = Bridges.place(repairs.bridge[line], repairs.component[line]);
                bridges.renew(place, Math.min(MAX_RATING, bridges.rating[place] + repairs.points[line]));
            }
            repairs.lines = 0;
        }

        private void copyFrom(State from) {
            roads.copyFrom(from.roads);
            bridges.copyFrom(from.bridges);
            repairs.copyFrom(from.repairs);
            year = from.year;
            inspections = from.inspections;
            spentForInspections = from.spentForInspections;
            spentForRepairs = from.spentForRepairs;
        }
    }

    /** The latest states, the oldest one first. */
    private static final class History {
        private int many;
        private final State[] kept = new State[MAX_KEPT];

        private History() {
            for (int i = 0; i < MAX_KEPT; i++) {
                kept[i] = new State();
            }
        }

        private void keep(State state) {
            if (many >= MAX_KEPT) {
                dropOldest();
            }
            kept[many].copyFrom(state);
            many++;
        }

        // The dropped state's rows go to the end, to be written over.
        private void dropOldest() {
            State oldest = kept[0];
            for (int i = 1; i < MAX_KEPT; i++) {
                kept[i - 1] = kept[i];
            }
            kept[MAX_KEPT - 1] = oldest;
            many = MAX_KEPT - 1;
        }

        private boolean restore(State state) {
            if (many <= 0) {
                return false;
            }
            many--;
            state.copyFrom(kept[many]);
            return true;
        }
    }

    /** The ratings that the components of one bridge have or would have, and the strengths by them. */
    private static final class Frame {
        private final int[] rating = new int[MAX_COMPONENTS];
        private final int[] strength = new int[MAX_COMPONENTS];

        private int trueRating(Bridges bridges, int bridge) {
            take(bridges, bridge, 0);
            return bear(bridges, bridge);
        }

        private int ratingIn(Bridges bridges, int bridge, int years) {
            take(bridges, bridge, years);
            return bear(bridges, bridge);
        }

        private void take(Bridges bridges, int bridge, int years) {
            for (int component = 0; component < bridges.components[bridge]; component++) {
                rating[component] = bridges.ratingAfter(Bridges.place(bridge, component), years);
            }
        }

        // Components rest on higher numbers only, so the strengths below one are known before its own.
        private int bear(Bridges bridges, int bridge) {
            int many = bridges.components[bridge];
            for (int component = many - 1; component >= 0; component--) {
                int rests = bridges.rests[Bridges.place(bridge, component)];
                int below = (rests & GROUND) != 0 ? MAX_RATING : 0;
                for (int on = component + 1; on < many; on++) {
                    if ((rests & (1 << on)) != 0) {
                        below = Math.max(below, strength[on]);
                    }
                }
                strength[component] = Math.min(rating[component], below);
            }
            return many == 0 ? 0 : strength[0];
        }

        private int overrated(Bridges bridges) {
            int found = 0;
            for (int bridge = 0; bridge < bridges.many; bridge++) {
                if (trueRating(bridges, bridge) < bridges.told[bridge]) {
                    found++;
                }
            }
            return found;
        }

        private int weakOnes(Bridges bridges, int bridge) {
            int whole = trueRating(bridges, bridge);
            int set = 0;
            for (int component = 0; component < bridges.components[bridge]; component++) {
                if (rating[component] > 0) {
                    rating[component]--;
                    if (bear(bridges, bridge) < whole) {
                        set |= 1 << component;
                    }
                    rating[component]++;
                }
            }
            return set;
        }

        // Ratings never rise by themselves, so the last year without a loss is found by halving.
        private int yearsToLess(Bridges bridges, int bridge) {
            int whole = trueRating(bridges, bridge);
            int kept = 0;
            for (int step = 512; step > 0; step /= 2) {
                int years = kept + step;
                if (years <= FORESEEN_YEARS && ratingIn(bridges, bridge, years) >= whole) {
                    kept = years;
                }
            }
            return kept < FORESEEN_YEARS ? kept + 1 : NONE;
        }

        private int ratingRepaired(State state, int bridge) {
            take(state.bridges, bridge, 0);
            for (int line = 0; line < state.repairs.lines; line++) {
                if (state.repairs.bridge[line] == bridge) {
                    int component = state.repairs.component[line];
                    rating[component] = Math.min(MAX_RATING, rating[component] + state.repairs.points[line]);
                }
            }
            return bear(state.bridges, bridge);
        }
    }

    /** The ways of a vehicle from one town. */
    private static final class Ways {
        private final int[] far = new int[MAX_TOWNS];
        private final int[] load = new int[MAX_TOWNS];
        private final int[] back = new int[MAX_TOWNS];

        private boolean reaches(int town) {
            return far[town] < UNREACHED;
        }

        /** Finds how far each town is, without one road (or NONE). */
        private void measure(State state, int from, int weight, int without) {
            for (int town = 0; town < MAX_TOWNS; town++) {
                far[town] = UNREACHED;
            }
            far[from] = 0;
            boolean nearer = true;
            // A shortest way has fewer roads than there are towns, and each turn adds one at least.
            for (int turn = 0; nearer && turn < MAX_TOWNS; turn++) {
                nearer = false;
                for (int road = 0; road < state.roads.many; road++) {
                    if (road != without && state.limit(road) >= weight) {
                        nearer = bringNearer(state.roads, road) || nearer;
                    }
                }
            }
        }

        private boolean bringNearer(Roads roads, int road) {
            int one = roads.one[road];
            int other = roads.other[road];
            int length = roads.length[road];
            boolean nearer = false;
            if (far[one] + length < far[other]) {
                far[other] = far[one] + length;
                nearer = true;
            }
            if (far[other] + length < far[one]) {
                far[one] = far[other] + length;
                nearer = true;
            }
            return nearer;
        }

        /** Writes the towns of the way that was measured, from its end on; answers how many (0: no way). */
        private int trace(State state, int from, int to, int weight) {
            if (!reaches(to)) {
                return 0;
            }
            int many = 0;
            int town = to;
            while (many < MAX_TOWNS && town != NONE) {
                back[many] = town;
                many++;
                town = town == from ? NONE : ahead(state, town, weight);
            }
            return many;
        }

        private int ahead(State state, int town, int weight) {
            int lowest = NONE;
            for (int road = 0; road < state.roads.many; road++) {
                int one = state.roads.one[road];
                int other = state.roads.other[road];
                if (state.limit(road) >= weight && (one == town || other == town)) {
                    int end = one == town ? other : one;
                    boolean shortest = far[end] + state.roads.length[road] == far[town];
                    if (shortest && (lowest == NONE || end < lowest)) {
                        lowest = end;
                    }
                }
            }
            return lowest;
        }

        /** Answers 0 if no vehicle has a way. */
        private int heaviestLoad(State state, int from, int to) {
            for (int town = 0; town < MAX_TOWNS; town++) {
                load[town] = 0;
            }
            load[from] = MAX_WEIGHT;
            boolean heavier = true;
            for (int turn = 0; heavier && turn < MAX_TOWNS; turn++) {
                heavier = false;
                for (int road = 0; road < state.roads.many; road++) {
                    heavier = bringHeavier(state, road) || heavier;
                }
            }
            return load[to];
        }

        private boolean bringHeavier(State state, int road) {
            int one = state.roads.one[road];
            int other = state.roads.other[road];
            int limit = state.limit(road);
            boolean heavier = false;
            if (Math.min(load[one], limit) > load[other]) {
                load[other] = Math.min(load[one], limit);
                heavier = true;
            }
            if (Math.min(load[other], limit) > load[one]) {
                load[one] = Math.min(load[other], limit);
                heavier = true;
            }
            return heavier;
        }
    }

    /** The round of a crew: the bridges that it inspects, in their order. */
    private static final class Tour {
        private int many;
        private final int[] order = new int[MAX_BRIDGES];

        // A bridge that was inspected this year is not due, so none comes twice.
        private void go(State state, Ways ways, Frame frame, int start, int hours) {
            int town = start;
            int left = hours;
            many = 0;
            while (many < MAX_BRIDGES) {
                ways.measure(state, town, CREW_WEIGHT, NONE);
                int next = nearest(state, ways);
                if (next == NONE) {
                    return;
                }
                int stop = stopFor(state, ways, next);
                int needed = drive(ways.far[stop]) + HOURS_TO_INSPECT;
                if (needed > left) {
                    return;
                }
                left -= needed;
                town = stop;
                state.lookAt(next, frame.trueRating(state.bridges, next));
                order[many] = next;
                many++;
            }
        }

        private static int nearest(State state, Ways ways) {
            int found = NONE;
            int least = UNREACHED;
            for (int bridge = 0; bridge < state.bridges.many; bridge++) {
                int far = ways.far[stopFor(state, ways, bridge)];
                if (state.isDue(bridge) && far < least) {
                    found = bridge;
                    least = far;
                }
            }
            return found;
        }

        private static int stopFor(State state, Ways ways, int bridge) {
            int road = state.bridges.road[bridge];
            int low = Math.min(state.roads.one[road], state.roads.other[road]);
            int high = Math.max(state.roads.one[road], state.roads.other[road]);
            return ways.far[high] < ways.far[low] ? high : low;
        }

        private static int drive(int far) {
            return (far + LENGTH_OF_AN_HOUR - 1) / LENGTH_OF_AN_HOUR;
        }
    }

    /** The giving of all lines with the least cost. */
    private static final class Award {
        private int cost;
        private final int[] taker = new int[MAX_LINES];
        private final int[] tried = new int[MAX_LINES];

        // In a best giving each line is with the cheapest of all bidders that are given any. So it is enough
        // to try each set of bidders, paying the fees of the whole set: where one of them gets no line,
        // the set without him is tried too, and is not dearer.
        private void settle(State state) {
            int lines = state.repairs.lines;
            cost = lines == 0 ? 0 : NONE;
            for (int line = 0; line < lines; line++) {
                taker[line] = NONE;
            }
            int sets = lines == 0 ? 0 : 1 << state.repairs.bidders;
            for (int set = 1; set < sets; set++) {
                int price = giveTo(state, set);
                if (cost == NONE || price < cost || (price == cost && comesFirst(lines))) {
                    cost = price;
                    System.arraycopy(tried, 0, taker, 0, MAX_LINES);
                }
            }
        }

        private int giveTo(State state, int set) {
            int price = 0;
            for (int bidder = 0; bidder < state.repairs.bidders; bidder++) {
                if ((set & (1 << bidder)) != 0) {
                    price += state.repairs.fee[bidder];
                }
            }
            for (int line = 0; line < state.repairs.lines; line++) {
                int cheapest = cheapest(state, set, line);
                tried[line] = cheapest;
                price += cheapest == NONE ? 0 : state.costOf(line, cheapest);
            }
            return price;
        }

        private static int cheapest(State state, int set, int line) {
            int found = NONE;
            for (int bidder = 0; bidder < state.repairs.bidders; bidder++) {
                if ((set & (1 << bidder)) != 0
                        && (found == NONE || state.costOf(line, bidder) < state.costOf(line, found))) {
                    found = bidder;
                }
            }
            return found;
        }

        private boolean comesFirst(int lines) {
            for (int line = 0; line < lines; line++) {
                if (tried[line] != taker[line]) {
                    return tried[line] < taker[line];
                }
            }
            return false;
        }

        private int pay(State state, int bidder) {
            int sum = 0;
            boolean given = false;
            for (int line = 0; line < state.repairs.lines; line++) {
                if (taker[line] == bidder) {
                    sum += state.costOf(line, bidder);
                    given = true;
                }
            }
            return given ? sum + state.repairs.fee[bidder] : 0;
        }
    }

    /** The text, and the roads that the latest reading found in it. */
    private static final class RoadText {
        private final int[] bytes = new int[MAX_TEXT];
        private int length;
        private int at;
        private int fault;
        private int number;
        private int roads;
        private int bridges;
        private final int[] one = new int[MAX_ROADS];
        private final int[] other = new int[MAX_ROADS];
        private final int[] far = new int[MAX_ROADS];
        private final boolean[] bridged = new boolean[MAX_ROADS];

        /** Answers the fault, or NONE. */
        private int read(State state) {
            at = 0;
            fault = NONE;
            roads = 0;
            bridges = 0;
            boolean more = true;
            for (int i = 0; more && i < MAX_TEXT; i++) {
                more = readRoad(state) && readSemicolon();
            }
            return fault;
        }

        private boolean readRoad(State state) {
            skipBlanks();
            if (state.roads.many + roads >= MAX_ROADS) {
                return fail(at);
            }
            int towns = state.roads.towns;
            if (!readNumber(0, towns - 1, NONE)) {
                return false;
            }
            int from = number;
            if (!readSign('-') || !readNumber(0, towns - 1, from)) {
                return false;
            }
            int to = number;
            if (!readSign(':') || !readNumber(1, MAX_LENGTH, NONE)) {
                return false;
            }
            return keepRoad(from, to, number) && readBridge(state);
        }

        private boolean keepRoad(int from, int to, int length) {
            if (roads >= MAX_ROADS) {
                return fail(at);
            }
            one[roads] = from;
            other[roads] = to;
            far[roads] = length;
            bridged[roads] = false;
            roads++;
            return true;
        }

        private boolean readBridge(State state) {
            skipBlanks();
            if (at >= length || bytes[at] != 'b') {
                return true;
            }
            if (state.bridges.many + bridges >= MAX_BRIDGES || roads < 1) {
                return fail(at);
            }
            bridged[roads - 1] = true;
            bridges++;
            at++;
            return true;
        }

        /** Answers whether a road follows. */
        private boolean readSemicolon() {
            skipBlanks();
            return at < length && readSign(';');
        }

        private boolean readSign(char sign) {
            skipBlanks();
            if (at >= length || bytes[at] != sign) {
                return fail(at);
            }
            at++;
            return true;
        }

        private boolean readNumber(int least, int most, int but) {
            skipBlanks();
            int first = at;
            number = 0;
            while (at < length && isDigit(bytes[at])) {
                // More digits than that are a fault, and would overflow.
                if (at < first + MAX_DIGITS) {
                    number = number * 10 + bytes[at] - '0';
                }
                at++;
            }
            if (at == first) {
                return fail(at);
            }
            boolean fits = at <= first + MAX_DIGITS && within(number, least, most) && number != but;
            return fits || fail(first);
        }

        private void skipBlanks() {
            while (at < length && bytes[at] == ' ') {
                at++;
            }
        }

        private static boolean isDigit(int code) {
            return '0' <= code && code <= '9';
        }

        private boolean fail(int position) {
            fault = position;
            return false;
        }
    }
}
