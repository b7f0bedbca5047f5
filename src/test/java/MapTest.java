/** Promises 1 to 13: the map, its bridges and their components. */
final class MapTest {
    private static final int NONE = BridgeRounds.NONE;
    private static final int BAD_INDEX = BridgeRounds.BAD_INDEX;
    private static final int BAD_VALUE = BridgeRounds.BAD_VALUE;
    private static final int BAD_STATE = BridgeRounds.BAD_STATE;
    private static final int FULL = BridgeRounds.FULL;
    private static final int MIN = Integer.MIN_VALUE;
    private static final int MAX = Integer.MAX_VALUE;

    private static final Check CHECK = new Check("MapTest");

    public static void main(String[] args) {
        constants();
        newObject();
        addTowns();
        addRoad();
        addBridge();
        addComponent();
        rest();
        setRating();
        close();
        count();
        road();
        bridge();
        component();
        strengths();
        weak();
        CHECK.end();
    }

    private static void constants() {
        CHECK.due("NONE", NONE, -1);
        CHECK.due("BAD_INDEX", BAD_INDEX, -2);
        CHECK.due("BAD_VALUE", BAD_VALUE, -3);
        CHECK.due("BAD_STATE", BAD_STATE, -4);
        CHECK.due("FULL", FULL, -5);
    }

    // Promise 1
    private static void newObject() {
        for (int what = 0; what <= 10; what++) {
            int asked = what;
            CHECK.still("new: count(" + what + ")", BridgeRounds::new, x -> x.count(asked), 0);
        }
        CHECK.still("new: clearText()", BridgeRounds::new, x -> x.clearText(), 0);
        CHECK.still("new: textFault()", BridgeRounds::new, x -> x.textFault(), 0);
        CHECK.still("new: undo()", BridgeRounds::new, x -> x.undo(), BAD_STATE);
        CHECK.still("new: award()", BridgeRounds::new, x -> x.award(), 0);
        CHECK.still("new: road(0, 0)", BridgeRounds::new, x -> x.road(0, 0), BAD_INDEX);
        CHECK.still("new: way(0, 0, 1)", BridgeRounds::new, x -> x.way(0, 0, 1), BAD_INDEX);
    }

    // Promise 2
    private static void addTowns() {
        CHECK.recorded("addTowns(1)", BridgeRounds::new, x -> x.addTowns(1), 1);
        CHECK.recorded("addTowns(10)", BridgeRounds::new, x -> x.addTowns(10), 10);
        CHECK.recorded("addTowns(6) more", () -> Fixtures.towns(4), x -> x.addTowns(6), 10);
        for (int many : new int[] {0, 11, -1, MIN, MAX}) {
            CHECK.still("addTowns(" + many + ")", BridgeRounds::new, x -> x.addTowns(many), BAD_VALUE);
            CHECK.still("full: addTowns(" + many + ")", () -> Fixtures.towns(10), x -> x.addTowns(many), BAD_VALUE);
        }
        CHECK.still("addTowns(7) more", () -> Fixtures.towns(4), x -> x.addTowns(7), FULL);
        CHECK.still("full: addTowns(1)", () -> Fixtures.towns(10), x -> x.addTowns(1), FULL);
    }

    // Promise 3
    private static void addRoad() {
        CHECK.recorded("addRoad(0, 3, 1)", () -> Fixtures.towns(4), x -> x.addRoad(0, 3, 1), 0);
        CHECK.recorded("addRoad(3, 0, 99)", () -> Fixtures.towns(4), x -> x.addRoad(3, 0, 99), 0);
        CHECK.recorded("the next road", () -> Fixtures.roads(4, 7), x -> x.addRoad(1, 2, 5), 7);
        CHECK.recorded("the last road", () -> Fixtures.roads(4, 19), x -> x.addRoad(1, 2, 5), 19);
        for (int town : new int[] {-1, 4, 10, MIN, MAX}) {
            CHECK.still("addRoad(" + town + ", 0, 5)", () -> Fixtures.towns(4), x -> x.addRoad(town, 0, 5), BAD_INDEX);
            CHECK.still("addRoad(0, " + town + ", 5)", () -> Fixtures.towns(4), x -> x.addRoad(0, town, 5), BAD_INDEX);
            CHECK.still("both bad", () -> Fixtures.towns(4), x -> x.addRoad(town, town, 0), BAD_INDEX);
            CHECK.still("bad town, full", () -> Fixtures.roads(4, 20), x -> x.addRoad(town, 0, 5), BAD_INDEX);
        }
        for (int length : new int[] {0, 100, -1, MIN, MAX}) {
            CHECK.still("addRoad(0, 1, " + length + ")", () -> Fixtures.towns(4), x -> x.addRoad(0, 1, length), BAD_VALUE);
            CHECK.still("bad length, full", () -> Fixtures.roads(4, 20), x -> x.addRoad(0, 1, length), BAD_VALUE);
        }
        CHECK.still("addRoad(2, 2, 5)", () -> Fixtures.towns(4), x -> x.addRoad(2, 2, 5), BAD_VALUE);
        CHECK.still("full: addRoad(2, 2, 5)", () -> Fixtures.roads(4, 20), x -> x.addRoad(2, 2, 5), BAD_VALUE);
        CHECK.still("full: addRoad(0, 1, 5)", () -> Fixtures.roads(4, 20), x -> x.addRoad(0, 1, 5), FULL);
        BridgeRounds x = Fixtures.towns(3);
        x.addRoad(2, 1, 42);
        CHECK.due("a new road carries no bridge", x.road(0, 3), NONE);
    }

    // Promise 4
    private static void addBridge() {
        CHECK.recorded("addBridge(3)", () -> Fixtures.roads(4, 8), x -> x.addBridge(3), 0);
        CHECK.recorded("the next bridge", () -> Fixtures.bridges(2), x -> x.addBridge(7), 2);
        CHECK.recorded("the last bridge", () -> Fixtures.bridges(5), x -> x.addBridge(7), 5);
        for (int road : new int[] {-1, 8, 20, MIN, MAX}) {
            CHECK.still("addBridge(" + road + ")", () -> Fixtures.bridges(2), x -> x.addBridge(road), BAD_INDEX);
            CHECK.still("full: addBridge(" + road + ")", () -> Fixtures.bridges(6), x -> x.addBridge(road), BAD_INDEX);
        }
        CHECK.still("a second one on the road", () -> Fixtures.bridges(2), x -> x.addBridge(1), BAD_STATE);
        CHECK.still("full: a second one on the road", () -> Fixtures.bridges(6), x -> x.addBridge(1), BAD_STATE);
        CHECK.still("full: addBridge(7)", () -> Fixtures.bridges(6), x -> x.addBridge(7), FULL);
        BridgeRounds x = Fixtures.roads(4, 8);
        x.pass(7);
        x.addBridge(5);
        int[] due = {5, 0, 0, 0, 7, 8, 0, 0, 0};
        for (int what = 0; what <= 8; what++) {
            CHECK.due("a new bridge: bridge(0, " + what + ")", x.bridge(0, what), due[what]);
        }
        CHECK.due("road(5, 3)", x.road(5, 3), 0);
        CHECK.due("building is no inspection", x.count(6), 0);
        CHECK.due("building costs nothing", x.count(7), 0);
    }

    // Promise 5
    private static void addComponent() {
        CHECK.recorded("the deck", () -> Fixtures.bridges(2), x -> x.addComponent(1, 0, 0, 0), 0);
        CHECK.recorded("the greatest values", () -> Fixtures.bridges(2), x -> x.addComponent(1, 3, 9, 60), 0);
        CHECK.recorded("the next one", Fixtures::frame, x -> x.addComponent(0, 1, 2, 3), 4);
        CHECK.recorded("the last one", () -> Fixtures.components(5), x -> x.addComponent(0, 1, 2, 3), 5);
        CHECK.recorded("another bridge", () -> Fixtures.components(6), x -> x.addComponent(1, 1, 2, 3), 0);
        for (int bridge : new int[] {-1, 2, 6, MIN, MAX}) {
            CHECK.still("bridge " + bridge, () -> Fixtures.bridges(2), x -> x.addComponent(bridge, 0, 0, 0), BAD_INDEX);
            CHECK.still("and a bad kind", () -> Fixtures.bridges(2), x -> x.addComponent(bridge, 4, 0, 0), BAD_INDEX);
        }
        for (int kind : new int[] {-1, 4, MIN, MAX}) {
            CHECK.still("kind " + kind, () -> Fixtures.bridges(2), x -> x.addComponent(0, kind, 0, 0), BAD_VALUE);
            CHECK.still("full, kind " + kind, () -> Fixtures.components(6), x -> x.addComponent(0, kind, 0, 0), BAD_VALUE);
        }
        for (int rating : new int[] {-1, 10, MIN, MAX}) {
            CHECK.still("rating " + rating, () -> Fixtures.bridges(2), x -> x.addComponent(0, 0, rating, 0), BAD_VALUE);
            CHECK.still("full, rating " + rating, () -> Fixtures.components(6), x -> x.addComponent(0, 0, rating, 0), BAD_VALUE);
        }
        for (int rate : new int[] {-1, 61, MIN, MAX}) {
            CHECK.still("rate " + rate, () -> Fixtures.bridges(2), x -> x.addComponent(0, 0, 0, rate), BAD_VALUE);
            CHECK.still("full, rate " + rate, () -> Fixtures.components(6), x -> x.addComponent(0, 0, 0, rate), BAD_VALUE);
        }
        CHECK.still("full", () -> Fixtures.components(6), x -> x.addComponent(0, 0, 0, 0), FULL);
        BridgeRounds x = Fixtures.bridges(2);
        x.addComponent(1, 2, 7, 33);
        int[] due = {2, 7, 0, 33, 0, 0};
        for (int what = 0; what <= 5; what++) {
            CHECK.due("a new component: component(1, 0, " + what + ")", x.component(1, 0, what), due[what]);
        }
        CHECK.due("the other bridge has none", x.bridge(0, 1), 0);
    }

    // Promise 6
    private static void rest() {
        CHECK.recorded("rest on the ground", Fixtures::frame, x -> x.rest(0, 2, NONE), 0);
        CHECK.recorded("rest on the last one", Fixtures::frame, x -> x.rest(0, 1, 3), 1);
        CHECK.recorded("not any more", Fixtures::frame, x -> x.rest(0, 0, 1), 0);
        CHECK.recorded("the highest one, on the ground", Fixtures::frame, x -> x.rest(0, 3, NONE), 1);
        for (int bridge : new int[] {-1, 1, 6, MIN, MAX}) {
            CHECK.still("bridge " + bridge, Fixtures::frame, x -> x.rest(bridge, 0, NONE), BAD_INDEX);
        }
        for (int component : new int[] {-1, 4, 6, MIN, MAX}) {
            CHECK.still("component " + component, Fixtures::frame, x -> x.rest(0, component, NONE), BAD_INDEX);
            CHECK.still("and a lower one", Fixtures::frame, x -> x.rest(0, component, 0), BAD_INDEX);
        }
        for (int on : new int[] {-2, 4, 5, 6, 64, MIN, MAX}) {
            CHECK.still("on " + on, Fixtures::frame, x -> x.rest(0, 0, on), BAD_INDEX);
        }
        CHECK.still("on itself", Fixtures::frame, x -> x.rest(0, 2, 2), BAD_VALUE);
        CHECK.still("on a lower one", Fixtures::frame, x -> x.rest(0, 2, 0), BAD_VALUE);
        BridgeRounds x = Fixtures.components(6);
        int set = 0;
        for (int on : new int[] {1, 5, NONE, 3, 5, 2, 4, NONE, 5, NONE}) {
            int member = on == NONE ? 64 : 1 << on;
            set ^= member;
            CHECK.due("rest(0, 0, " + on + ")", x.rest(0, 0, on), (set & member) != 0 ? 1 : 0);
            CHECK.due("what it rests on", x.component(0, 0, 5), set);
        }
        CHECK.due("the others rest on nothing", x.component(0, 1, 5), 0);
    }

    // Promise 7
    private static void setRating() {
        CHECK.recorded("setRating(0, 1, 0)", Fixtures::frame, x -> x.setRating(0, 1, 0), 7);
        CHECK.recorded("setRating(0, 0, 9)", Fixtures::frame, x -> x.setRating(0, 0, 9), 9);
        for (int bridge : new int[] {-1, 1, MIN, MAX}) {
            CHECK.still("bridge " + bridge, Fixtures::frame, x -> x.setRating(bridge, 0, 10), BAD_INDEX);
        }
        for (int component : new int[] {-1, 4, MIN, MAX}) {
            CHECK.still("component " + component, Fixtures::frame, x -> x.setRating(0, component, 10), BAD_INDEX);
        }
        for (int rating : new int[] {-1, 10, MIN, MAX}) {
            CHECK.still("rating " + rating, Fixtures::frame, x -> x.setRating(0, 0, rating), BAD_VALUE);
        }
        BridgeRounds x = Fixtures.frame();
        x.pass(3);
        CHECK.due("wear before", x.component(0, 1, 2), 90);
        CHECK.due("setRating(0, 1, 7)", x.setRating(0, 1, 7), 7);
        CHECK.due("wear behind", x.component(0, 1, 2), 0);
        CHECK.due("rating behind", x.component(0, 1, 1), 7);
        CHECK.due("the wear of the deck stays", x.component(0, 0, 2), 30);
        CHECK.due("what it rests on stays", x.component(0, 1, 5), 64);
        CHECK.due("told stays", x.bridge(0, 3), 0);
    }

    // Promise 8
    private static void close() {
        CHECK.recorded("close", Fixtures::frame, x -> x.close(0, true), 0);
        CHECK.recorded("open an open one", Fixtures::frame, x -> x.close(0, false), 0);
        for (int bridge : new int[] {-1, 1, 6, MIN, MAX}) {
            CHECK.still("close(" + bridge + ", true)", Fixtures::frame, x -> x.close(bridge, true), BAD_INDEX);
            CHECK.still("close(" + bridge + ", false)", Fixtures::frame, x -> x.close(bridge, false), BAD_INDEX);
        }
        BridgeRounds x = Fixtures.frame();
        x.inspect(0);
        CHECK.due("post when open", x.bridge(0, 8), 40);
        CHECK.due("close", x.close(0, true), 0);
        CHECK.due("closed", x.bridge(0, 7), 1);
        CHECK.due("post when closed", x.bridge(0, 8), 0);
        CHECK.due("told when closed", x.bridge(0, 3), 7);
        CHECK.due("close again", x.close(0, true), 1);
        CHECK.due("open", x.close(0, false), 1);
        CHECK.due("open", x.bridge(0, 7), 0);
        CHECK.due("post when open again", x.bridge(0, 8), 40);
        CHECK.due("open again", x.close(0, false), 0);
    }

    // Promise 9
    private static void count() {
        for (int what : new int[] {-1, 11, MIN, MAX}) {
            CHECK.still("count(" + what + ")", Fixtures::frame, x -> x.count(what), BAD_VALUE);
        }
        BridgeRounds x = Fixtures.bridges(3);
        x.addComponent(0, 0, 8, 50);
        x.rest(0, 0, NONE);
        x.addComponent(1, 0, 6, 0);
        x.addComponent(1, 1, 6, 0);
        x.rest(1, 0, NONE);
        x.inspect(0);
        x.inspect(1);
        x.inspect(1);
        x.addBidder(10, 2, 3, 4, 5);
        x.addBidder(20, 2, 3, 4, 5);
        x.addLine(1, 1, 2);
        x.pass(2);
        int[] due = {4, 8, 3, 1, 2, 2, 3, 6 + 7 + 7, 0, 2, 1};
        for (int what = 0; what <= 10; what++) {
            int asked = what;
            CHECK.due("count(" + what + ")", x.count(asked), due[what]);
        }
        x.repair();
        CHECK.due("count(3) behind repair()", x.count(3), 0);
        CHECK.due("count(8) behind repair()", x.count(8), 16);
        x.pass(2);
        CHECK.due("all are due", x.count(9), 3);
        x.setRating(1, 0, 5);
        CHECK.due("two are worse than told", x.count(10), 2);
        x.setRating(1, 0, 9);
        x.setRating(0, 0, 8);
        CHECK.due("as told or better is not worse", x.count(10), 0);
        x.inspect(2);
        CHECK.due("an inspected one without components is not due", x.count(9), 2);
    }

    // Promise 10
    private static void road() {
        BridgeRounds x = Fixtures.towns(4);
        x.addRoad(2, 1, 17);
        x.addRoad(0, 3, 99);
        x.addBridge(1);
        int[] first = {2, 1, 17, NONE};
        int[] second = {0, 3, 99, 0};
        for (int what = 0; what <= 3; what++) {
            CHECK.due("road(0, " + what + ")", x.road(0, what), first[what]);
            CHECK.due("road(1, " + what + ")", x.road(1, what), second[what]);
        }
        for (int road : new int[] {-1, 8, 20, MIN, MAX}) {
            CHECK.still("road(" + road + ", 0)", () -> Fixtures.bridges(2), y -> y.road(road, 0), BAD_INDEX);
            CHECK.still("road(" + road + ", 4)", () -> Fixtures.bridges(2), y -> y.road(road, 4), BAD_INDEX);
        }
        for (int what : new int[] {-1, 4, MIN, MAX}) {
            CHECK.still("road(0, " + what + ")", () -> Fixtures.bridges(2), y -> y.road(0, what), BAD_VALUE);
        }
        for (int what = 0; what <= 3; what++) {
            int asked = what;
            CHECK.still("a question", () -> Fixtures.bridges(2), y -> y.road(1, asked), new int[] {1, 2, 12, 1}[what]);
        }
    }

    // Promise 11
    private static void bridge() {
        for (int bridge : new int[] {-1, 2, 6, MIN, MAX}) {
            CHECK.still("bridge(" + bridge + ", 0)", () -> Fixtures.bridges(2), x -> x.bridge(bridge, 0), BAD_INDEX);
            CHECK.still("bridge(" + bridge + ", 9)", () -> Fixtures.bridges(2), x -> x.bridge(bridge, 9), BAD_INDEX);
        }
        for (int what : new int[] {-1, 9, MIN, MAX}) {
            CHECK.still("bridge(0, " + what + ")", () -> Fixtures.bridges(2), x -> x.bridge(0, what), BAD_VALUE);
        }
        int[] posts = {0, 3, 3, 7, 12, 20, 28, 40, 60, 60};
        int[] years = {1, 1, 1, 1, 1, 2, 2, 4, 4, 4};
        for (int rating = 0; rating <= 9; rating++) {
            BridgeRounds x = Fixtures.roads(4, 8);
            x.pass(3);
            x.addBridge(6);
            x.addComponent(0, 0, rating, 0);
            x.rest(0, 0, NONE);
            x.addComponent(0, 0, 9, 0);
            CHECK.due("true before the inspection", x.bridge(0, 2), rating);
            CHECK.due("told before the inspection", x.bridge(0, 3), 0);
            CHECK.due("post before the inspection", x.bridge(0, 8), 0);
            x.pass(10);
            x.inspect(0);
            int[] due = {6, 2, rating, rating, 13, 13 + years[rating], 0, 0, posts[rating]};
            for (int what = 0; what <= 8; what++) {
                CHECK.due("rating " + rating + ": bridge(0, " + what + ")", x.bridge(0, what), due[what]);
            }
            for (int passed = 1; passed <= 5; passed++) {
                x.pass(1);
                CHECK.due("due after " + passed, x.bridge(0, 6), passed >= years[rating] ? 1 : 0);
            }
        }
    }

    // Promise 12
    private static void component() {
        for (int bridge : new int[] {-1, 1, 6, MIN, MAX}) {
            CHECK.still("component(" + bridge + ", 0, 6)", Fixtures::frame, x -> x.component(bridge, 0, 6), BAD_INDEX);
        }
        for (int component : new int[] {-1, 4, 6, MIN, MAX}) {
            CHECK.still("component(0, " + component + ", 6)", Fixtures::frame, x -> x.component(0, component, 6), BAD_INDEX);
        }
        for (int what : new int[] {-1, 6, MIN, MAX}) {
            CHECK.still("component(0, 0, " + what + ")", Fixtures::frame, x -> x.component(0, 0, what), BAD_VALUE);
        }
        int[][] due = {{0, 9, 0, 10, 7, 6}, {1, 7, 0, 30, 7, 64}, {2, 5, 0, 0, 5, 64}, {3, 8, 0, 60, 0, 0}};
        for (int component = 0; component < 4; component++) {
            for (int what = 0; what <= 5; what++) {
                int of = component;
                int asked = what;
                CHECK.still("component(0, " + of + ", " + what + ")", Fixtures::frame,
                        x -> x.component(0, of, asked), due[component][what]);
            }
        }
    }

    /** The strength of the description: the greatest one below, not above the own rating. */
    private static void strengths() {
        BridgeRounds x = Fixtures.components(6);
        int[] ratings = {9, 4, 8, 6, 2, 7};
        for (int component = 0; component < 6; component++) {
            x.setRating(0, component, ratings[component]);
        }
        CHECK.due("nothing below", x.bridge(0, 2), 0);
        x.rest(0, 5, NONE);
        x.rest(0, 4, 5);
        x.rest(0, 3, 4);
        x.rest(0, 2, 3);
        x.rest(0, 1, 2);
        x.rest(0, 0, 1);
        int[] chain = {2, 2, 2, 2, 2, 7};
        for (int component = 0; component < 6; component++) {
            CHECK.due("chain: strength of " + component, x.component(0, component, 4), chain[component]);
        }
        CHECK.due("chain: the deck", x.bridge(0, 2), 2);
        x.rest(0, 3, 5);
        CHECK.due("the greater one of two", x.component(0, 3, 4), 6);
        CHECK.due("a rating between", x.bridge(0, 2), 4);
        x.rest(0, 0, 2);
        CHECK.due("another way to the ground", x.bridge(0, 2), 6);
        x.rest(0, 0, NONE);
        CHECK.due("the ground is 9", x.bridge(0, 2), 9);
        x.setRating(0, 0, 3);
        CHECK.due("not above the own rating", x.bridge(0, 2), 3);
    }

    // Promise 13
    private static void weak() {
        for (int bridge : new int[] {-1, 1, 6, MIN, MAX}) {
            CHECK.still("weak(" + bridge + ")", Fixtures::frame, x -> x.weak(bridge), BAD_INDEX);
        }
        CHECK.still("weak without components", () -> Fixtures.bridges(1), x -> x.weak(0), 0);
        CHECK.still("weak(0)", Fixtures::frame, x -> x.weak(0), 2);
        BridgeRounds x = Fixtures.components(6);
        CHECK.due("all hang", x.weak(0), 0);
        x.rest(0, 0, 2);
        x.rest(0, 2, 5);
        x.rest(0, 5, NONE);
        x.setRating(0, 0, 4);
        x.setRating(0, 2, 4);
        x.setRating(0, 5, 4);
        CHECK.due("each of a chain", x.weak(0), 1 + 4 + 32);
        x.setRating(0, 2, 5);
        CHECK.due("not the one with more", x.weak(0), 1 + 32);
        x.rest(0, 0, 4);
        x.rest(0, 4, NONE);
        x.setRating(0, 4, 4);
        CHECK.due("none of two as strong", x.weak(0), 1);
        x.setRating(0, 0, 9);
        CHECK.due("one of two is stronger", x.weak(0), 0);
        x.setRating(0, 4, 0);
        CHECK.due("the other one alone", x.weak(0), 32);
        x.setRating(0, 5, 0);
        CHECK.due("rating 0 is not weak", x.weak(0), 0);
        x.setRating(0, 5, 1);
        CHECK.due("rating 1 is weak", x.weak(0), 32);
        x.setRating(0, 0, 1);
        CHECK.due("a deck with 1 is weak", x.weak(0), 1 + 32);
        x.setRating(0, 0, 0);
        CHECK.due("a deck with 0 is not weak", x.weak(0), 0);
        x.rest(0, 0, NONE);
        CHECK.due("nor on the ground", x.weak(0), 0);
    }
}
