import java.util.ArrayDeque;
import java.util.ArrayList;
import java.util.Deque;
import java.util.List;

/**
 * The document once more, as slowly and as literally as can be: year by year, giving by giving, way by way.
 * It shares nothing with BridgeRounds, so that a slip in one of the two shows as a difference.
 */
final class Model {
    private static final int NONE = -1;
    private static final int BAD_INDEX = -2;
    private static final int BAD_VALUE = -3;
    private static final int BAD_STATE = -4;
    private static final int FULL = -5;
    private static final int NO_WAY = Integer.MAX_VALUE;

    private static final class Road {
        int one;
        int other;
        int length;
        int bridge = NONE;
    }

    private static final class Component {
        int kind;
        int rating;
        int wear;
        int rate;
        boolean ground;
        boolean[] on = new boolean[6];

        Component copy() {
            Component c = new Component();
            c.kind = kind;
            c.rating = rating;
            c.wear = wear;
            c.rate = rate;
            c.ground = ground;
            c.on = on.clone();
            return c;
        }

        void year() {
            wear += rate;
            if (wear >= 100) {
                wear -= 100;
                rating = rating == 0 ? 0 : rating - 1;
            }
        }
    }

    private static final class Bridge {
        int road;
        int told;
        int seen;
        boolean closed;
        List<Component> components = new ArrayList<>();

        Bridge copy() {
            Bridge b = new Bridge();
            b.road = road;
            b.told = told;
            b.seen = seen;
            b.closed = closed;
            for (Component c : components) {
                b.components.add(c.copy());
            }
            return b;
        }

        int strength(int component) {
            Component c = components.get(component);
            int below = c.ground ? 9 : 0;
            for (int on = 0; on < components.size(); on++) {
                if (c.on[on]) {
                    below = Math.max(below, strength(on));
                }
            }
            return Math.min(c.rating, below);
        }

        int trueRating() {
            return components.isEmpty() ? 0 : strength(0);
        }

        int post() {
            return closed ? 0 : List.of(0, 3, 3, 7, 12, 20, 28, 40, 60, 60).get(told);
        }

        int dueYear() {
            return seen + List.of(1, 1, 1, 1, 1, 2, 2, 4, 4, 4).get(told);
        }
    }

    private static final class State {
        int towns;
        int year;
        int inspections;
        int spent;
        int repaired;
        List<Road> roads = new ArrayList<>();
        List<Bridge> bridges = new ArrayList<>();
        List<int[]> lines = new ArrayList<>();
        List<int[]> bidders = new ArrayList<>();

        State copy() {
            State s = new State();
            s.towns = towns;
            s.year = year;
            s.inspections = inspections;
            s.spent = spent;
            s.repaired = repaired;
            for (Road r : roads) {
                Road copy = new Road();
                copy.one = r.one;
                copy.other = r.other;
                copy.length = r.length;
                copy.bridge = r.bridge;
                s.roads.add(copy);
            }
            for (Bridge b : bridges) {
                s.bridges.add(b.copy());
            }
            s.lines.addAll(lines);
            s.bidders.addAll(bidders);
            return s;
        }

        boolean town(int town) {
            return town >= 0 && town < towns;
        }

        Bridge bridge(int bridge) {
            return bridge >= 0 && bridge < bridges.size() ? bridges.get(bridge) : null;
        }

        Component component(int bridge, int component) {
            Bridge b = bridge(bridge);
            return b != null && component >= 0 && component < b.components.size() ? b.components.get(component) : null;
        }

        boolean due(Bridge b) {
            return year >= b.dueYear();
        }

        void inspect(Bridge b) {
            b.told = b.trueRating();
            b.seen = year;
            inspections++;
            spent += 5 + b.components.size();
        }

        int addRoad(int one, int other, int length) {
            Road r = new Road();
            r.one = one;
            r.other = other;
            r.length = length;
            roads.add(r);
            return roads.size() - 1;
        }

        int addBridge(int road) {
            Bridge b = new Bridge();
            b.road = road;
            b.seen = year;
            bridges.add(b);
            roads.get(road).bridge = bridges.size() - 1;
            return bridges.size() - 1;
        }

        boolean usable(int road, int weight) {
            Road r = roads.get(road);
            return r.bridge == NONE || bridges.get(r.bridge).post() >= weight;
        }

        /** The shortest of all ways that come to no town twice. */
        int shortest(int from, int to, int weight, int without, boolean[] seen) {
            if (from == to) {
                return 0;
            }
            int least = NO_WAY;
            seen[from] = true;
            for (int road = 0; road < roads.size(); road++) {
                Road r = roads.get(road);
                int next = r.one == from ? r.other : r.other == from ? r.one : NONE;
                if (road != without && next != NONE && !seen[next] && usable(road, weight)) {
                    int rest = shortest(next, to, weight, without, seen);
                    least = rest == NO_WAY ? least : Math.min(least, rest + r.length);
                }
            }
            seen[from] = false;
            return least;
        }

        int shortest(int from, int to, int weight) {
            return shortest(from, to, weight, NONE, new boolean[10]);
        }

        List<Integer> path(int from, int to, int weight) {
            List<Integer> towns = new ArrayList<>();
            if (shortest(from, to, weight) == NO_WAY) {
                return towns;
            }
            int town = to;
            towns.add(town);
            while (town != from) {
                int whole = shortest(from, town, weight);
                int ahead = NONE;
                for (int lower = 9; lower >= 0; lower--) {
                    for (int road = 0; road < roads.size(); road++) {
                        Road r = roads.get(road);
                        boolean joins = (r.one == lower && r.other == town) || (r.other == lower && r.one == town);
                        if (joins && usable(road, weight)) {
                            int part = shortest(from, lower, weight);
                            ahead = part != NO_WAY && part + r.length == whole ? lower : ahead;
                        }
                    }
                }
                town = ahead;
                towns.add(0, town);
            }
            return towns;
        }

        List<Integer> round(int start, int hours) {
            List<Integer> done = new ArrayList<>();
            int town = start;
            int left = hours;
            while (true) {
                int next = NONE;
                int least = NO_WAY;
                int stop = NONE;
                for (int b = 0; b < bridges.size(); b++) {
                    Road r = roads.get(bridges.get(b).road);
                    int low = Math.min(r.one, r.other);
                    int high = Math.max(r.one, r.other);
                    int toLow = shortest(town, low, 12);
                    int toHigh = shortest(town, high, 12);
                    if (due(bridges.get(b)) && !done.contains(b) && Math.min(toLow, toHigh) < least) {
                        next = b;
                        least = Math.min(toLow, toHigh);
                        stop = toLow <= toHigh ? low : high;
                    }
                }
                int needed = next == NONE ? 0 : least / 10 + (least % 10 == 0 ? 0 : 1) + 4;
                if (next == NONE || needed > left) {
                    return done;
                }
                left -= needed;
                town = stop;
                inspect(bridges.get(next));
                done.add(next);
            }
        }

        int cost(int[] line, int[] bidder) {
            return line[2] * bidder[1 + component(line[0], line[1]).kind];
        }

        int cost(int[] giving) {
            boolean[] given = new boolean[3];
            int sum = 0;
            for (int line = 0; line < giving.length; line++) {
                given[giving[line]] = true;
                sum += cost(lines.get(line), bidders.get(giving[line]));
            }
            for (int bidder = 0; bidder < bidders.size(); bidder++) {
                sum += given[bidder] ? bidders.get(bidder)[0] : 0;
            }
            return sum;
        }

        /** All givings in their order, the first one with the least cost; null with lines and no bidders. */
        int[] award() {
            int[] giving = new int[lines.size()];
            if (giving.length > 0 && bidders.isEmpty()) {
                return null;
            }
            int[] best = giving.clone();
            int at = 0;
            while (at >= 0) {
                if (cost(giving) < cost(best)) {
                    best = giving.clone();
                }
                at = giving.length - 1;
                while (at >= 0 && giving[at] == bidders.size() - 1) {
                    giving[at] = 0;
                    at--;
                }
                if (at >= 0) {
                    giving[at]++;
                }
            }
            return best;
        }

        void carryOut() {
            for (int[] line : lines) {
                Component c = component(line[0], line[1]);
                c.rating = Math.min(9, c.rating + line[2]);
                c.wear = 0;
            }
            lines.clear();
        }
    }

    private State now = new State();
    private final Deque<State> history = new ArrayDeque<>();
    private String text = "";

    private void record() {
        history.addLast(now.copy());
        if (history.size() > 5) {
            history.removeFirst();
        }
    }

    int addTowns(int many) {
        if (many < 1 || many > 10) {
            return BAD_VALUE;
        }
        if (many > 10 - now.towns) {
            return FULL;
        }
        record();
        now.towns += many;
        return now.towns;
    }

    int addRoad(int one, int other, int length) {
        if (!now.town(one) || !now.town(other)) {
            return BAD_INDEX;
        }
        if (one == other || length < 1 || length > 99) {
            return BAD_VALUE;
        }
        if (now.roads.size() == 20) {
            return FULL;
        }
        record();
        return now.addRoad(one, other, length);
    }

    int addBridge(int road) {
        if (road < 0 || road >= now.roads.size()) {
            return BAD_INDEX;
        }
        if (now.roads.get(road).bridge != NONE) {
            return BAD_STATE;
        }
        if (now.bridges.size() == 6) {
            return FULL;
        }
        record();
        return now.addBridge(road);
    }

    int addComponent(int bridge, int kind, int rating, int rate) {
        if (now.bridge(bridge) == null) {
            return BAD_INDEX;
        }
        if (kind < 0 || kind > 3 || rating < 0 || rating > 9 || rate < 0 || rate > 60) {
            return BAD_VALUE;
        }
        if (now.bridge(bridge).components.size() == 6) {
            return FULL;
        }
        record();
        Component c = new Component();
        c.kind = kind;
        c.rating = rating;
        c.rate = rate;
        now.bridge(bridge).components.add(c);
        return now.bridge(bridge).components.size() - 1;
    }

    int rest(int bridge, int component, int on) {
        if (now.component(bridge, component) == null || (on != NONE && now.component(bridge, on) == null)) {
            return BAD_INDEX;
        }
        if (on != NONE && on <= component) {
            return BAD_VALUE;
        }
        record();
        Component c = now.component(bridge, component);
        if (on == NONE) {
            c.ground = !c.ground;
            return c.ground ? 1 : 0;
        }
        c.on[on] = !c.on[on];
        return c.on[on] ? 1 : 0;
    }

    int setRating(int bridge, int component, int rating) {
        if (now.component(bridge, component) == null) {
            return BAD_INDEX;
        }
        if (rating < 0 || rating > 9) {
            return BAD_VALUE;
        }
        record();
        Component c = now.component(bridge, component);
        int before = c.rating;
        c.rating = rating;
        c.wear = 0;
        return before;
    }

    int close(int bridge, boolean closed) {
        if (now.bridge(bridge) == null) {
            return BAD_INDEX;
        }
        record();
        boolean before = now.bridge(bridge).closed;
        now.bridge(bridge).closed = closed;
        return before ? 1 : 0;
    }

    int count(int what) {
        if (what < 0 || what > 10) {
            return BAD_VALUE;
        }
        int due = 0;
        int worse = 0;
        for (Bridge b : now.bridges) {
            due += now.due(b) ? 1 : 0;
            worse += b.trueRating() < b.told ? 1 : 0;
        }
        return new int[] {now.towns, now.roads.size(), now.bridges.size(), now.lines.size(), now.bidders.size(),
            now.year, now.inspections, now.spent, now.repaired, due, worse}[what];
    }

    int road(int road, int what) {
        if (road < 0 || road >= now.roads.size()) {
            return BAD_INDEX;
        }
        if (what < 0 || what > 3) {
            return BAD_VALUE;
        }
        Road r = now.roads.get(road);
        return new int[] {r.one, r.other, r.length, r.bridge}[what];
    }

    int bridge(int bridge, int what) {
        Bridge b = now.bridge(bridge);
        if (b == null) {
            return BAD_INDEX;
        }
        if (what < 0 || what > 8) {
            return BAD_VALUE;
        }
        return new int[] {b.road, b.components.size(), b.trueRating(), b.told, b.seen, b.dueYear(),
            now.due(b) ? 1 : 0, b.closed ? 1 : 0, b.post()}[what];
    }

    int component(int bridge, int component, int what) {
        Component c = now.component(bridge, component);
        if (c == null) {
            return BAD_INDEX;
        }
        if (what < 0 || what > 5) {
            return BAD_VALUE;
        }
        int set = c.ground ? 64 : 0;
        int member = 1;
        for (boolean on : c.on) {
            set += on ? member : 0;
            member *= 2;
        }
        return new int[] {c.kind, c.rating, c.wear, c.rate, now.bridge(bridge).strength(component), set}[what];
    }

    int weak(int bridge) {
        if (now.bridge(bridge) == null) {
            return BAD_INDEX;
        }
        int set = 0;
        for (int component = 0; component < now.bridge(bridge).components.size(); component++) {
            Bridge less = now.bridge(bridge).copy();
            less.components.get(component).rating--;
            boolean was = now.component(bridge, component).rating > 0;
            set += was && less.trueRating() < now.bridge(bridge).trueRating() ? 1 << component : 0;
        }
        return set;
    }

    int pass(int years) {
        if (years < 1 || years > 50) {
            return BAD_VALUE;
        }
        if (now.year + years > 1000) {
            return FULL;
        }
        record();
        for (int year = 0; year < years; year++) {
            now.year++;
            for (Bridge b : now.bridges) {
                b.components.forEach(Component::year);
            }
        }
        return now.year;
    }

    int inspect(int bridge) {
        if (now.bridge(bridge) == null) {
            return BAD_INDEX;
        }
        record();
        now.inspect(now.bridge(bridge));
        return now.bridge(bridge).told;
    }

    int round(int start, int hours) {
        if (!now.town(start)) {
            return BAD_INDEX;
        }
        if (hours < 1 || hours > 200) {
            return BAD_VALUE;
        }
        record();
        return now.round(start, hours).size();
    }

    int ofRound(int start, int hours, int index) {
        if (!now.town(start)) {
            return BAD_INDEX;
        }
        if (hours < 1 || hours > 200 || index < 0) {
            return BAD_VALUE;
        }
        List<Integer> done = now.copy().round(start, hours);
        return index < done.size() ? done.get(index) : NONE;
    }

    int weakensIn(int bridge) {
        if (now.bridge(bridge) == null) {
            return BAD_INDEX;
        }
        Bridge later = now.bridge(bridge).copy();
        for (int year = 1; year <= 1000; year++) {
            later.components.forEach(Component::year);
            if (later.trueRating() < now.bridge(bridge).trueRating()) {
                return year;
            }
        }
        return NONE;
    }

    int way(int from, int to, int weight) {
        if (!now.town(from) || !now.town(to)) {
            return BAD_INDEX;
        }
        if (weight < 1 || weight > 60) {
            return BAD_VALUE;
        }
        int length = now.shortest(from, to, weight);
        return length == NO_WAY ? NONE : length;
    }

    int wayTown(int from, int to, int weight, int index) {
        if (!now.town(from) || !now.town(to)) {
            return BAD_INDEX;
        }
        if (weight < 1 || weight > 60 || index < 0) {
            return BAD_VALUE;
        }
        List<Integer> towns = now.path(from, to, weight);
        return index < towns.size() ? towns.get(index) : NONE;
    }

    int detour(int bridge, int weight) {
        Bridge b = now.bridge(bridge);
        if (b == null) {
            return BAD_INDEX;
        }
        if (weight < 1 || weight > 60) {
            return BAD_VALUE;
        }
        Road r = now.roads.get(b.road);
        int around = now.shortest(r.one, r.other, weight, b.road, new boolean[10]);
        return around == NO_WAY ? NONE : 1000 + around - r.length;
    }

    int heaviest(int from, int to) {
        if (!now.town(from) || !now.town(to)) {
            return BAD_INDEX;
        }
        if (from == to) {
            return BAD_STATE;
        }
        for (int weight = 60; weight > 0; weight--) {
            boolean changes = weight == 60 || List.of(3, 7, 12, 20, 28, 40).contains(weight);
            if (changes && now.shortest(from, to, weight) != NO_WAY) {
                return weight;
            }
        }
        return NONE;
    }

    int addBidder(int fee, int... prices) {
        boolean right = fee >= 0 && fee <= 999;
        for (int price : prices) {
            right = right && price >= 1 && price <= 99;
        }
        if (!right) {
            return BAD_VALUE;
        }
        if (now.bidders.size() == 3) {
            return FULL;
        }
        record();
        now.bidders.add(new int[] {fee, prices[0], prices[1], prices[2], prices[3]});
        return now.bidders.size() - 1;
    }

    int addLine(int bridge, int component, int points) {
        if (now.component(bridge, component) == null) {
            return BAD_INDEX;
        }
        if (points < 1 || points > 9) {
            return BAD_VALUE;
        }
        if (now.lines.size() == 8) {
            return FULL;
        }
        record();
        now.lines.add(new int[] {bridge, component, points});
        return now.lines.size() - 1;
    }

    int clearLines() {
        record();
        int many = now.lines.size();
        now.lines.clear();
        return many;
    }

    int line(int line, int what) {
        if (line < 0 || line >= now.lines.size()) {
            return BAD_INDEX;
        }
        if (what < 0 || what > 3) {
            return BAD_VALUE;
        }
        if (what < 3) {
            return now.lines.get(line)[what];
        }
        int[] giving = now.award();
        return giving == null ? NONE : giving[line];
    }

    int bidder(int bidder, int what) {
        if (bidder < 0 || bidder >= now.bidders.size()) {
            return BAD_INDEX;
        }
        if (what < 0 || what > 6) {
            return BAD_VALUE;
        }
        int[] of = now.bidders.get(bidder);
        if (what < 5) {
            return of[what];
        }
        int[] giving = now.award();
        int lines = 0;
        int sum = 0;
        for (int line = 0; line < giving.length; line++) {
            if (what == 6 || giving[line] == bidder) {
                sum += now.cost(now.lines.get(line), of);
                lines++;
            }
        }
        return lines == 0 ? 0 : sum + of[0];
    }

    int award() {
        int[] giving = now.award();
        return giving == null ? NONE : now.cost(giving);
    }

    int ratingBehind(int bridge) {
        if (now.bridge(bridge) == null) {
            return BAD_INDEX;
        }
        State behind = now.copy();
        behind.carryOut();
        return behind.bridge(bridge).trueRating();
    }

    int repair() {
        int cost = award();
        if (cost == NONE) {
            return BAD_STATE;
        }
        record();
        now.carryOut();
        now.repaired += cost;
        return cost;
    }

    int undo() {
        if (history.isEmpty()) {
            return BAD_STATE;
        }
        now = history.removeLast();
        return history.size();
    }

    int type(int code) {
        if (code < 0 || code > 255) {
            return BAD_VALUE;
        }
        if (text.length() == 100) {
            return FULL;
        }
        text += (char) code;
        return text.length();
    }

    int clearText() {
        int length = text.length();
        text = "";
        return length;
    }

    /**
     * Byte by byte: 'want' is what may stand here. N: a number; after the three numbers of a road
     * '-', ':' and 'e' (a "b", a ";" or the end); after a "b": 's' (a ";" or the end).
     */
    int textFault() {
        char want = 'N';
        int numbers = 0;
        int first = NONE;
        int roads = now.roads.size();
        int bridges = now.bridges.size();
        int at = 0;
        while (at < text.length()) {
            char c = text.charAt(at);
            if (c == ' ') {
                at++;
                continue;
            }
            if (want == 'N') {
                int end = at;
                while (end < text.length() && "0123456789".indexOf(text.charAt(end)) >= 0) {
                    end++;
                }
                if (end == at || end - at > 2 || (numbers == 0 && roads == 20)) {
                    return at;
                }
                int value = Integer.parseInt(text.substring(at, end));
                boolean fits = numbers == 2 ? value >= 1 : value < now.towns && (numbers == 0 || value != first);
                if (!fits) {
                    return at;
                }
                first = numbers == 0 ? value : first;
                want = "-:e".charAt(numbers);
                numbers = (numbers + 1) % 3;
                roads += numbers == 0 ? 1 : 0;
                at = end;
                continue;
            }
            if (c == 'b' && want == 'e' && bridges < 6) {
                bridges++;
                want = 's';
            } else if (c == ';' && (want == 'e' || want == 's')) {
                want = 'N';
            } else if (c == want && (c == '-' || c == ':')) {
                want = 'N';
            } else {
                return at;
            }
            at++;
        }
        return want == 'e' || want == 's' ? NONE : text.length();
    }

    int lay() {
        if (textFault() != NONE) {
            return BAD_STATE;
        }
        record();
        for (String part : text.replace(" ", "").split(";")) {
            String[] numbers = part.replace("b", "").split("[-:]");
            int road = now.addRoad(Integer.parseInt(numbers[0]), Integer.parseInt(numbers[1]), Integer.parseInt(numbers[2]));
            if (part.endsWith("b")) {
                now.addBridge(road);
            }
        }
        return now.roads.size();
    }

    long digest() {
        List<Integer> numbers = new ArrayList<>();
        for (int what = 0; what <= 10; what++) {
            numbers.add(count(what));
        }
        for (int i = 0; i < now.roads.size(); i++) {
            for (int what = 0; what <= 3; what++) {
                numbers.add(road(i, what));
            }
        }
        for (int i = 0; i < now.bridges.size(); i++) {
            for (int what = 0; what <= 8; what++) {
                numbers.add(bridge(i, what));
            }
            for (int c = 0; c < now.bridges.get(i).components.size(); c++) {
                for (int what = 0; what <= 5; what++) {
                    numbers.add(component(i, c, what));
                }
            }
        }
        for (int i = 0; i < now.lines.size(); i++) {
            for (int what = 0; what <= 3; what++) {
                numbers.add(line(i, what));
            }
        }
        for (int i = 0; i < now.bidders.size(); i++) {
            for (int what = 0; what <= 6; what++) {
                numbers.add(bidder(i, what));
            }
        }
        long h = 17;
        for (int v : numbers) {
            h = 31 * h + v;
        }
        return h;
    }
}
