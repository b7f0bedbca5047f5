/** All promises: long runs of calls, each answered by BridgeRounds and by the model. */
final class ModelTest {
    private static final int RUNS = 400;
    private static final int CALLS = 500;
    private static final int TEXT_RUNS = 400;

    private static final Check CHECK = new Check("ModelTest");

    private long seed;
    private int run;
    private boolean fewLengths;
    private int mostRoads;
    private BridgeRounds x;
    private Model m;

    public static void main(String[] args) {
        ModelTest test = new ModelTest();
        for (int run = 0; run < RUNS; run++) {
            test.begin(run);
            test.calls();
        }
        for (int run = 0; run < TEXT_RUNS; run++) {
            test.begin(RUNS + run);
            test.texts();
        }
        CHECK.end();
    }

    private void begin(int number) {
        run = number;
        seed = 1000003L * number + 7;
        x = new BridgeRounds();
        m = new Model();
        for (int i = 0; i < 10; i++) {
            below(2);
        }
    }

    /** The same numbers each time: a congruence of Knuth's. */
    private int below(int end) {
        seed = seed * 6364136223846793005L + 1442695040888963407L;
        return (int) ((seed >>> 33) % end);
    }

    /** Mostly from least to most, now and then outside. */
    private int from(int least, int most) {
        if (below(60) == 0) {
            int[] outside = {least - 1, most + 1, least - 1, most + 1, Integer.MIN_VALUE, Integer.MAX_VALUE};
            return outside[below(outside.length)];
        }
        return least + below(most - least + 1);
    }

    private int town() {
        return from(0, Math.max(0, m.count(0) - 1));
    }

    private int bridge() {
        return from(0, Math.max(0, m.count(2) - 1));
    }

    private int component(int bridge) {
        return from(0, Math.max(0, m.bridge(bridge, 1) - 1));
    }

    private void due(String call, long got, long want) {
        CHECK.due("run " + run + ": " + call, got, want);
    }

    private void calls() {
        int towns = 2 + below(9);
        due("addTowns(" + towns + ")", x.addTowns(towns), m.addTowns(towns));
        fewLengths = below(2) == 0;
        mostRoads = below(3) == 0 ? 20 : 2 + below(12);
        for (int call = 0; call < CALLS; call++) {
            int kind = below(100);
            if (call < 80 || kind < 8) {
                build();
            } else if (kind < 22) {
                change();
            } else if (kind < 45) {
                askMap();
            } else if (kind < 65) {
                askWays();
            } else if (kind < 80) {
                repairs();
            } else if (kind < 90) {
                due("digest()", x.digest(), m.digest());
            } else {
                years();
            }
        }
        due("digest() at the end", x.digest(), m.digest());
    }

    private void build() {
        int b = bridge();
        switch (below(9)) {
            case 0:
                int many = from(1, 10);
                due("addTowns(" + many + ")", x.addTowns(many), m.addTowns(many));
                break;
            case 1:
            case 2:
            case 3:
                addRoad();
                break;
            case 4:
                int road = from(0, Math.max(0, m.count(1) - 1));
                due("addBridge(" + road + ")", x.addBridge(road), m.addBridge(road));
                break;
            case 5:
            case 6:
                addComponent(b);
                break;
            default:
                int c = component(b);
                rest(b, c, below(3) == 0 ? -1 : from(Math.max(0, c), Math.max(Math.max(0, c), m.bridge(b, 1) - 1)));
                break;
        }
    }

    private void addRoad() {
        if (m.count(1) >= mostRoads && below(10) > 0) {
            return;
        }
        int one = town();
        int other = town();
        // few different lengths make many ways as short
        int length = fewLengths ? 5 * from(1, 4) : from(1, 99);
        due("addRoad(" + one + ", " + other + ", " + length + ")", x.addRoad(one, other, length),
                m.addRoad(one, other, length));
    }

    /** Mostly it rests on the ground then, and a lower one rests on it. */
    private void addComponent(int b) {
        int kind = from(0, 3);
        int rating = from(below(2) * 5, 9);
        int rate = from(0, below(2) == 0 ? 10 : 60);
        int c = m.addComponent(b, kind, rating, rate);
        due("addComponent(" + b + ", " + kind + ", " + rating + ", " + rate + ")", x.addComponent(b, kind, rating, rate), c);
        if (c >= 0 && below(4) > 0) {
            rest(b, c, -1);
        }
        if (c > 0 && below(4) > 0) {
            int lower = below(c);
            rest(b, lower, c);
            if (m.component(b, lower, 5) >= 64 && below(2) == 0) {
                rest(b, lower, -1);
            }
        }
        if (below(2) == 0) {
            due("inspect(" + b + ")", x.inspect(b), m.inspect(b));
        }
    }

    private void rest(int b, int c, int on) {
        due("rest(" + b + ", " + c + ", " + on + ")", x.rest(b, c, on), m.rest(b, c, on));
    }

    private void change() {
        int b = bridge();
        int c = component(b);
        switch (below(6)) {
            case 0:
                boolean closed = below(4) == 0;
                due("close(" + b + ", " + closed + ")", x.close(b, closed), m.close(b, closed));
                break;
            case 1:
            case 2:
                int rating = from(0, 9);
                due("setRating(" + b + ", " + c + ", " + rating + ")", x.setRating(b, c, rating), m.setRating(b, c, rating));
                break;
            case 3:
                due("inspect(" + b + ")", x.inspect(b), m.inspect(b));
                break;
            case 4:
                due("undo()", x.undo(), m.undo());
                break;
            default:
                rest(b, c, below(4) == 0 ? -1 : from(0, 5));
                break;
        }
    }

    private void years() {
        int town = town();
        int hours = below(2) == 0 ? from(1, 30) : from(1, 200);
        switch (below(4)) {
            case 0:
                int years = below(8) == 0 ? from(1, 50) : from(1, 4);
                due("pass(" + years + ")", x.pass(years), m.pass(years));
                break;
            case 1:
                due("round(" + town + ", " + hours + ")", x.round(town, hours), m.round(town, hours));
                break;
            default:
                int index = from(0, 6);
                due("ofRound(" + town + ", " + hours + ", " + index + ")", x.ofRound(town, hours, index),
                        m.ofRound(town, hours, index));
                break;
        }
    }

    private void askMap() {
        int b = bridge();
        int c = component(b);
        int what = from(0, 10);
        int road = from(0, Math.max(0, m.count(1) - 1));
        due("count(" + what + ")", x.count(what), m.count(what));
        due("road(" + road + ", " + what + ")", x.road(road, what), m.road(road, what));
        due("bridge(" + b + ", " + what + ")", x.bridge(b, what), m.bridge(b, what));
        due("component(" + b + ", " + c + ", " + what + ")", x.component(b, c, what), m.component(b, c, what));
        due("weak(" + b + ")", x.weak(b), m.weak(b));
        due("weakensIn(" + b + ")", x.weakensIn(b), m.weakensIn(b));
        due("ratingBehind(" + b + ")", x.ratingBehind(b), m.ratingBehind(b));
    }

    private void askWays() {
        int from = town();
        int to = town();
        int weight = from(1, 60);
        int index = from(0, 4);
        int b = bridge();
        due("way(" + from + ", " + to + ", " + weight + ")", x.way(from, to, weight), m.way(from, to, weight));
        due("wayTown(" + from + ", " + to + ", " + weight + ", " + index + ")", x.wayTown(from, to, weight, index),
                m.wayTown(from, to, weight, index));
        due("detour(" + b + ", " + weight + ")", x.detour(b, weight), m.detour(b, weight));
        due("heaviest(" + from + ", " + to + ")", x.heaviest(from, to), m.heaviest(from, to));
    }

    private void repairs() {
        int line = from(0, 7);
        int bidder = from(0, 2);
        switch (below(10)) {
            case 0:
                int fee = below(2) == 0 ? from(0, 20) : from(0, 999);
                int most = below(2) == 0 ? 5 : 99;
                int[] price = {from(1, most), from(1, most), from(1, most), from(1, most)};
                due("addBidder(" + fee + ", ..)", x.addBidder(fee, price[0], price[1], price[2], price[3]),
                        m.addBidder(fee, price));
                break;
            case 1:
            case 2:
            case 3:
                int b = bridge();
                int c = component(b);
                int points = from(1, 9);
                due("addLine(" + b + ", " + c + ", " + points + ")", x.addLine(b, c, points), m.addLine(b, c, points));
                break;
            case 4:
                if (below(4) == 0) {
                    due("clearLines()", x.clearLines(), m.clearLines());
                } else if (below(2) == 0) {
                    due("repair()", x.repair(), m.repair());
                }
                break;
            case 5:
                due("award()", x.award(), m.award());
                break;
            case 6:
            case 7:
                for (int what = -1; what <= 4; what++) {
                    due("line(" + line + ", " + what + ")", x.line(line, what), m.line(line, what));
                }
                break;
            default:
                for (int what = -1; what <= 7; what++) {
                    due("bidder(" + bidder + ", " + what + ")", x.bidder(bidder, what), m.bidder(bidder, what));
                }
                break;
        }
    }

    private void texts() {
        int towns = 1 + below(10);
        due("addTowns(" + towns + ")", x.addTowns(towns), m.addTowns(towns));
        for (int i = 0; i < 20; i++) {
            due("clearText()", x.clearText(), m.clearText());
            for (char c : text().toCharArray()) {
                due("type(" + (int) c + ")", x.type(c), m.type(c));
                if (below(4) == 0) {
                    due("textFault()", x.textFault(), m.textFault());
                }
            }
            due("textFault()", x.textFault(), m.textFault());
            due("lay()", x.lay(), m.lay());
            if (below(3) == 0) {
                due("pass(1)", x.pass(1), m.pass(1));
            }
            if (below(4) == 0) {
                due("undo()", x.undo(), m.undo());
            }
            due("digest()", x.digest(), m.digest());
        }
    }

    /** One road or some, mostly right, with blanks here and there, and a slip now and then. */
    private String text() {
        StringBuilder text = new StringBuilder();
        int roads = 1 + below(3);
        for (int road = 0; road < roads; road++) {
            String[] parts = {number(town()), "-", number(town()), ":", number(from(1, 99)), below(4) == 0 ? "b" : "",
                road < roads - 1 ? ";" : ""};
            for (String part : parts) {
                text.append(part);
                if (below(8) == 0) {
                    text.append(" ".repeat(1 + below(2)));
                }
            }
        }
        if (below(4) == 0) {
            int at = below(text.length() + 1);
            char slip = "0123456789-:;b x".charAt(below(16));
            if (below(2) == 0 || at == text.length()) {
                text.insert(at, slip);
            } else {
                text.setCharAt(at, slip);
            }
        }
        if (below(10) == 0) {
            text.setLength(below(text.length()));
        }
        return text.toString();
    }

    private String number(int value) {
        int shown = Math.max(0, value);
        return (shown < 10 && below(4) == 0 ? "0" : "") + shown;
    }
}
