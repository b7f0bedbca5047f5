/** The sentences of promises 1 to 13: the map, its bridges and their components. */
final class MapSentences {
    private static final int NONE = BridgeRounds.NONE;
    private static final int BAD_INDEX = BridgeRounds.BAD_INDEX;
    private static final int BAD_VALUE = BridgeRounds.BAD_VALUE;
    private static final int BAD_STATE = BridgeRounds.BAD_STATE;
    private static final int FULL = BridgeRounds.FULL;

    private MapSentences() {
    }

    static void tests(Sentences all) {
        newObject(all);
        addTowns(all);
        addRoad(all);
        addRoadRefused(all);
        addBridge(all);
        addComponent(all);
        addComponentRefused(all);
        rest(all);
        restRefused(all);
        setRating(all);
        close(all);
        count(all);
        countOfYears(all);
        road(all);
        bridge(all);
        bridgeByYears(all);
        component(all);
        componentRefused(all);
        weak(all);
    }

    private static void newObject(Sentences all) {
        all.promise(1, "Creates a map without towns,", c -> {
            c.still("count(0)", BridgeRounds::new, x -> x.count(0), 0);
            c.still("way(0, 0, 1)", BridgeRounds::new, x -> x.way(0, 0, 1), BAD_INDEX);
            c.still("round(0, 1)", BridgeRounds::new, x -> x.round(0, 1), BAD_INDEX);
            Fixtures.towns(10);
            c.due("another object has no part in it", new BridgeRounds().count(0), 0);
            for (int what = 1; what <= 10; what++) {
                c.due("count(" + what + ")", new BridgeRounds().count(what), 0);
            }
            c.due("undo()", new BridgeRounds().undo(), BAD_STATE);
        });
        all.promise(1, "in the year 0,", c -> {
            c.still("count(5)", BridgeRounds::new, x -> x.count(5), 0);
            c.due("a year later", new BridgeRounds().pass(1), 1);
        });
        all.promise(1, "and with an empty text.", c -> {
            c.still("clearText()", BridgeRounds::new, x -> x.clearText(), 0);
            c.still("textFault()", BridgeRounds::new, x -> x.textFault(), 0);
            c.due("the first byte", new BridgeRounds().type(48), 1);
        });
    }

    private static void addTowns(Sentences all) {
        all.promise(2, "Adds towns.", c -> {
            BridgeRounds x = new BridgeRounds();
            x.addTowns(3);
            c.due("the last of three", x.way(2, 2, 1), 0);
            c.due("no fourth one", x.way(3, 3, 1), BAD_INDEX);
            x.addTowns(1);
            c.due("a fourth one", x.way(3, 3, 1), 0);
            c.due("how many", x.count(0), 4);
        });
        all.promise(2, "Recorded.", c ->
            c.recorded("addTowns(2)", () -> Fixtures.towns(3), x -> x.addTowns(2), 5));
        all.promise(2, "`many`: 1 to 10", c -> {
            c.recorded("addTowns(1)", BridgeRounds::new, x -> x.addTowns(1), 1);
            c.recorded("addTowns(10)", BridgeRounds::new, x -> x.addTowns(10), 10);
        });
        all.promise(2, "Returns how many towns there are then;", c -> {
            BridgeRounds x = new BridgeRounds();
            c.due("addTowns(4)", x.addTowns(4), 4);
            c.due("addTowns(2)", x.addTowns(2), 6);
            c.due("addTowns(1)", x.addTowns(1), 7);
        });
        all.promise(2, "BAD_VALUE if many is out of range;", c -> {
            for (int many : Fixtures.outside(1, 10)) {
                c.still("addTowns(" + many + ")", BridgeRounds::new, x -> x.addTowns(many), BAD_VALUE);
            }
        });
        all.promise(2, "FULL if there would be more than 10.", c -> {
            c.recorded("5 and 5", () -> Fixtures.towns(5), x -> x.addTowns(5), 10);
            c.still("5 and 6", () -> Fixtures.towns(5), x -> x.addTowns(6), FULL);
            c.still("1 and 10", () -> Fixtures.towns(1), x -> x.addTowns(10), FULL);
            c.still("10 and 1", () -> Fixtures.towns(10), x -> x.addTowns(1), FULL);
        });
    }

    private static void addRoad(Sentences all) {
        all.promise(3, "Adds a road without a bridge.", c -> {
            BridgeRounds x = Fixtures.towns(2);
            x.addRoad(0, 1, 8);
            c.due("roads", x.count(1), 1);
            c.due("bridges", x.count(2), 0);
            c.due("its bridge", x.road(0, 3), NONE);
            c.due("the heaviest vehicle can use it", x.way(0, 1, 60), 8);
        });
        all.promise(3, "Recorded.", c ->
            c.recorded("addRoad(1, 0, 7)", () -> Fixtures.roads(3, 2), x -> x.addRoad(1, 0, 7), 2));
        all.promise(3, "`one`: a town", c -> {
            BridgeRounds x = Fixtures.towns(10);
            c.due("the first town", x.addRoad(0, 5, 1), 0);
            c.due("the last town", x.addRoad(9, 5, 1), 1);
            c.due("part 0", x.road(1, 0), 9);
        });
        all.promise(3, "`other`: another town", c -> {
            BridgeRounds x = Fixtures.towns(10);
            c.due("the first town", x.addRoad(5, 0, 1), 0);
            c.due("the last town", x.addRoad(5, 9, 1), 1);
            c.due("part 1", x.road(1, 1), 9);
        });
        all.promise(3, "`length`: 1 to 99", c -> {
            c.recorded("1", () -> Fixtures.towns(2), x -> x.addRoad(0, 1, 1), 0);
            c.recorded("99", () -> Fixtures.towns(2), x -> x.addRoad(0, 1, 99), 0);
            BridgeRounds x = Fixtures.towns(2);
            x.addRoad(0, 1, 99);
            c.due("part 2", x.road(0, 2), 99);
        });
        all.promise(3, "Returns its number;", c -> {
            BridgeRounds x = Fixtures.towns(3);
            for (int road = 0; road < 20; road++) {
                c.due("addRoad()", x.addRoad(road % 3, (road + 1) % 3, 5), road);
            }
        });
    }

    private static void addRoadRefused(Sentences all) {
        all.promise(3, "BAD_INDEX if there is no such town (either one);", c -> {
            for (int town : Fixtures.outside(0, 3)) {
                c.still("one " + town, () -> Fixtures.towns(4), x -> x.addRoad(town, 0, 5), BAD_INDEX);
                c.still("other " + town, () -> Fixtures.towns(4), x -> x.addRoad(0, town, 5), BAD_INDEX);
            }
            c.still("no towns", BridgeRounds::new, x -> x.addRoad(0, 1, 5), BAD_INDEX);
        });
        all.promise(3, "BAD_VALUE if both are the same, or length is out of range;", c -> {
            for (int town = 0; town < 4; town++) {
                int both = town;
                c.still("both " + town, () -> Fixtures.towns(4), x -> x.addRoad(both, both, 5), BAD_VALUE);
            }
            for (int length : Fixtures.outside(1, 99)) {
                c.still("length " + length, () -> Fixtures.towns(4), x -> x.addRoad(0, 1, length), BAD_VALUE);
            }
        });
        all.promise(3, "FULL if there are 20 roads.", c -> {
            c.recorded("the road 19", () -> Fixtures.roads(4, 19), x -> x.addRoad(0, 1, 5), 19);
            c.still("with 20 roads", () -> Fixtures.roads(4, 20), x -> x.addRoad(0, 1, 5), FULL);
        });
    }

    private static void addBridge(Sentences all) {
        all.promise(4, "Builds a bridge on a road.", c -> {
            BridgeRounds x = Fixtures.roads(4, 8);
            x.addBridge(3);
            c.due("bridges", x.count(2), 1);
            c.due("its road", x.bridge(0, 0), 3);
            c.due("the bridge of the road", x.road(3, 3), 0);
            c.due("that of another road", x.road(2, 3), NONE);
        });
        all.promise(4, "Recorded.", c ->
            c.recorded("addBridge(4)", () -> Fixtures.bridges(2), x -> x.addBridge(4), 2));
        all.promise(4, "`road`: its number", c -> {
            c.recorded("the first road", () -> Fixtures.roads(4, 20), x -> x.addBridge(0), 0);
            c.recorded("the last road", () -> Fixtures.roads(4, 20), x -> x.addBridge(19), 0);
        });
        all.promise(4, "Returns the number of the bridge;", c -> {
            BridgeRounds x = Fixtures.roads(4, 8);
            int[] roads = {7, 0, 6, 1, 5, 2};
            for (int bridge = 0; bridge < 6; bridge++) {
                c.due("addBridge(" + roads[bridge] + ")", x.addBridge(roads[bridge]), bridge);
            }
        });
        all.promise(4, "BAD_INDEX if there is no such road;", c -> {
            for (int road : Fixtures.outside(0, 7)) {
                c.still("addBridge(" + road + ")", () -> Fixtures.bridges(2), x -> x.addBridge(road), BAD_INDEX);
            }
            c.still("no roads", () -> Fixtures.towns(2), x -> x.addBridge(0), BAD_INDEX);
        });
        all.promise(4, "BAD_STATE if it carries one already;", c -> {
            c.still("the first one", () -> Fixtures.bridges(2), x -> x.addBridge(0), BAD_STATE);
            c.still("the second one", () -> Fixtures.bridges(2), x -> x.addBridge(1), BAD_STATE);
        });
        all.promise(4, "FULL if there are 6 bridges.", c -> {
            c.recorded("with 5 bridges", () -> Fixtures.bridges(5), x -> x.addBridge(7), 5);
            c.still("with 6 bridges", () -> Fixtures.bridges(6), x -> x.addBridge(7), FULL);
        });
    }

    private static void addComponent(Sentences all) {
        all.promise(5, "Adds a component, which rests on nothing.", c -> {
            BridgeRounds x = Fixtures.bridges(2);
            x.addComponent(1, 0, 9, 0);
            c.due("how many", x.bridge(1, 1), 1);
            c.due("how many of the other bridge", x.bridge(0, 1), 0);
            c.due("its set", x.component(1, 0, 5), 0);
            c.due("its strength", x.component(1, 0, 4), 0);
        });
        all.promise(5, "Recorded.", c ->
            c.recorded("addComponent(0, 2, 6, 9)", Fixtures::frame, x -> x.addComponent(0, 2, 6, 9), 4));
        all.promise(5, "`bridge`: its number", c -> {
            c.recorded("the first bridge", () -> Fixtures.bridges(6), x -> x.addComponent(0, 0, 5, 5), 0);
            c.recorded("the last bridge", () -> Fixtures.bridges(6), x -> x.addComponent(5, 0, 5, 5), 0);
        });
        all.promise(5, "`kind`: 0 to 3", c -> {
            for (int kind = 0; kind <= 3; kind++) {
                BridgeRounds x = Fixtures.bridges(1);
                c.due("addComponent(0, " + kind + ", 5, 5)", x.addComponent(0, kind, 5, 5), 0);
                c.due("its kind", x.component(0, 0, 0), kind);
            }
        });
        all.promise(5, "`rating`: 0 to 9", c -> {
            for (int rating = 0; rating <= 9; rating++) {
                BridgeRounds x = Fixtures.bridges(1);
                c.due("addComponent(0, 0, " + rating + ", 5)", x.addComponent(0, 0, rating, 5), 0);
                c.due("its rating", x.component(0, 0, 1), rating);
            }
        });
        all.promise(5, "`rate`: 0 to 60", c -> {
            for (int rate : new int[] {0, 1, 59, 60}) {
                BridgeRounds x = Fixtures.bridges(1);
                c.due("addComponent(0, 0, 5, " + rate + ")", x.addComponent(0, 0, 5, rate), 0);
                c.due("its rate", x.component(0, 0, 3), rate);
            }
        });
        all.promise(5, "Returns its number;", c -> {
            BridgeRounds x = Fixtures.bridges(2);
            for (int component = 0; component < 6; component++) {
                c.due("addComponent(0, ..)", x.addComponent(0, 0, 5, 5), component);
                c.due("addComponent(1, ..)", x.addComponent(1, 0, 5, 5), component);
            }
        });
    }

    private static void addComponentRefused(Sentences all) {
        all.promise(5, "BAD_INDEX if there is no such bridge;", c -> {
            for (int bridge : Fixtures.outside(0, 1)) {
                c.still("bridge " + bridge, () -> Fixtures.bridges(2), x -> x.addComponent(bridge, 0, 5, 5), BAD_INDEX);
            }
            c.still("no bridges", () -> Fixtures.bridges(0), x -> x.addComponent(0, 0, 5, 5), BAD_INDEX);
        });
        all.promise(5, "BAD_VALUE if another argument is out of range;", c -> {
            for (int kind : Fixtures.outside(0, 3)) {
                c.still("kind " + kind, () -> Fixtures.bridges(2), x -> x.addComponent(0, kind, 5, 5), BAD_VALUE);
            }
            for (int rating : Fixtures.outside(0, 9)) {
                c.still("rating " + rating, () -> Fixtures.bridges(2), x -> x.addComponent(0, 0, rating, 5), BAD_VALUE);
            }
            for (int rate : Fixtures.outside(0, 60)) {
                c.still("rate " + rate, () -> Fixtures.bridges(2), x -> x.addComponent(0, 0, 5, rate), BAD_VALUE);
            }
        });
        all.promise(5, "FULL if the bridge has 6 components.", c -> {
            c.recorded("with 5", () -> Fixtures.components(5), x -> x.addComponent(0, 0, 5, 5), 5);
            c.still("with 6", () -> Fixtures.components(6), x -> x.addComponent(0, 0, 5, 5), FULL);
            c.recorded("another bridge", () -> Fixtures.components(6), x -> x.addComponent(1, 0, 5, 5), 0);
        });
    }

    private static void rest(Sentences all) {
        all.promise(6, "Lets a component rest on a component, or on the ground, or not any more.", c -> {
            BridgeRounds x = Fixtures.components(6);
            x.rest(0, 1, 4);
            c.due("on a component", x.component(0, 1, 5), 16);
            x.rest(0, 1, NONE);
            c.due("and on the ground", x.component(0, 1, 5), 16 + 64);
            x.rest(0, 1, 4);
            c.due("on the component not any more", x.component(0, 1, 5), 64);
            x.rest(0, 1, NONE);
            c.due("on the ground not any more", x.component(0, 1, 5), 0);
            c.due("another one", x.component(0, 0, 5), 0);
        });
        all.promise(6, "Recorded.", c -> {
            c.recorded("on it", () -> Fixtures.components(3), x -> x.rest(0, 0, 2), 1);
            c.recorded("not any more", Fixtures::frame, x -> x.rest(0, 0, 2), 0);
        });
        all.promise(6, "`bridge`: its number", c -> {
            BridgeRounds x = Fixtures.bridges(6);
            x.addComponent(0, 0, 5, 0);
            x.addComponent(5, 0, 5, 0);
            c.due("the last bridge", x.rest(5, 0, NONE), 1);
            c.due("the first bridge rests on nothing", x.component(0, 0, 5), 0);
            c.due("the first bridge", x.rest(0, 0, NONE), 1);
        });
        all.promise(6, "`component`: its number", c -> {
            c.recorded("the first one", () -> Fixtures.components(6), x -> x.rest(0, 0, NONE), 1);
            c.recorded("the last one", () -> Fixtures.components(6), x -> x.rest(0, 5, NONE), 1);
        });
        all.promise(6, "`on`: a component with a higher number, or NONE for the ground", c -> {
            c.recorded("the next one", () -> Fixtures.components(6), x -> x.rest(0, 4, 5), 1);
            c.recorded("the highest one", () -> Fixtures.components(6), x -> x.rest(0, 0, 5), 1);
            BridgeRounds x = Fixtures.components(6);
            x.rest(0, 0, -1);
            c.due("the ground", x.component(0, 0, 4), 5);
        });
        all.promise(6, "Returns 1 if it rests on it then, else 0;", c -> {
            BridgeRounds x = Fixtures.components(6);
            for (int turn = 1; turn <= 4; turn++) {
                c.due("on 3, turn " + turn, x.rest(0, 0, 3), turn % 2);
                c.due("on the ground, turn " + turn, x.rest(0, 0, NONE), turn % 2);
            }
            x.rest(0, 0, 4);
            c.due("on another one, while it rests on one", x.rest(0, 0, 5), 1);
            c.due("not on that one, while it rests on one", x.rest(0, 0, 5), 0);
        });
    }

    private static void restRefused(Sentences all) {
        all.promise(6, "BAD_INDEX if there is no such bridge or component (either one), but NONE;", c -> {
            for (int bridge : Fixtures.outside(0, 0)) {
                c.still("bridge " + bridge, Fixtures::frame, x -> x.rest(bridge, 0, 1), BAD_INDEX);
            }
            for (int component : Fixtures.outside(0, 3)) {
                c.still("component " + component, Fixtures::frame, x -> x.rest(0, component, 3), BAD_INDEX);
                c.still("component " + component + ", ground", Fixtures::frame, x -> x.rest(0, component, NONE), BAD_INDEX);
            }
            for (int on : Fixtures.outside(-1, 3)) {
                c.still("on " + on, Fixtures::frame, x -> x.rest(0, 0, on), BAD_INDEX);
            }
            c.still("no components", () -> Fixtures.bridges(1), x -> x.rest(0, 0, NONE), BAD_INDEX);
            c.recorded("NONE", Fixtures::frame, x -> x.rest(0, 3, NONE), 1);
        });
        all.promise(6, "BAD_VALUE if on is not NONE, and not higher than component.", c -> {
            for (int component = 0; component < 4; component++) {
                int one = component;
                c.still(one + " on itself", Fixtures::frame, x -> x.rest(0, one, one), BAD_VALUE);
            }
            c.still("1 on 0", Fixtures::frame, x -> x.rest(0, 1, 0), BAD_VALUE);
            c.still("3 on 0", Fixtures::frame, x -> x.rest(0, 3, 0), BAD_VALUE);
            c.recorded("NONE is lower, and right", Fixtures::frame, x -> x.rest(0, 1, NONE), 0);
        });
    }

    private static void setRating(Sentences all) {
        all.promise(7, "Sets the rating of a component; its wear becomes 0.", c -> {
            BridgeRounds x = Fixtures.later(Fixtures.frame(), 3);
            c.due("wear before", x.component(0, 1, 2), 90);
            x.setRating(0, 1, 4);
            c.due("rating", x.component(0, 1, 1), 4);
            c.due("wear", x.component(0, 1, 2), 0);
            c.due("wear of another one", x.component(0, 0, 2), 30);
            x.pass(3);
            x.setRating(0, 1, 4);
            c.due("wear by the same rating", x.component(0, 1, 2), 0);
        });
        all.promise(7, "Recorded.", c ->
            c.recorded("setRating(0, 1, 7), as it was", Fixtures::frame, x -> x.setRating(0, 1, 7), 7));
        all.promise(7, "`bridge`: its number", c -> {
            BridgeRounds x = Fixtures.bridges(6);
            x.addComponent(0, 0, 5, 0);
            x.addComponent(5, 0, 6, 0);
            c.due("the last bridge", x.setRating(5, 0, 1), 6);
            c.due("the first bridge", x.setRating(0, 0, 2), 5);
            c.due("the last bridge again", x.component(5, 0, 1), 1);
        });
        all.promise(7, "`component`: its number", c -> {
            c.recorded("the first one", () -> Fixtures.components(6), x -> x.setRating(0, 0, 8), 5);
            c.recorded("the last one", () -> Fixtures.components(6), x -> x.setRating(0, 5, 8), 5);
        });
        all.promise(7, "`rating`: 0 to 9", c -> {
            c.recorded("0", Fixtures::frame, x -> x.setRating(0, 0, 0), 9);
            c.recorded("9", Fixtures::frame, x -> x.setRating(0, 2, 9), 5);
        });
        all.promise(7, "Returns the previous rating;", c -> {
            BridgeRounds x = Fixtures.frame();
            c.due("9 to 0", x.setRating(0, 0, 0), 9);
            c.due("0 to 3", x.setRating(0, 0, 3), 0);
            x.pass(50);
            c.due("worn to 0", x.setRating(0, 0, 9), 0);
        });
        all.promise(7, "BAD_INDEX if there is no such bridge or component;", c -> {
            for (int bridge : Fixtures.outside(0, 0)) {
                c.still("bridge " + bridge, Fixtures::frame, x -> x.setRating(bridge, 0, 5), BAD_INDEX);
            }
            for (int component : Fixtures.outside(0, 3)) {
                c.still("component " + component, Fixtures::frame, x -> x.setRating(0, component, 5), BAD_INDEX);
            }
        });
        all.promise(7, "BAD_VALUE if rating is out of range.", c -> {
            for (int rating : Fixtures.outside(0, 9)) {
                c.still("rating " + rating, Fixtures::frame, x -> x.setRating(0, 0, rating), BAD_VALUE);
            }
        });
    }

    private static void close(Sentences all) {
        all.promise(8, "Closes a bridge, or opens it.", c -> {
            BridgeRounds x = Fixtures.bridges(2);
            x.close(1, true);
            c.due("closed", x.bridge(1, 7), 1);
            c.due("the other one", x.bridge(0, 7), 0);
            x.close(1, false);
            c.due("open", x.bridge(1, 7), 0);
        });
        all.promise(8, "Recorded.", c -> {
            c.recorded("close(1, true)", () -> Fixtures.bridges(2), x -> x.close(1, true), 0);
            c.recorded("close(1, false), as it was", () -> Fixtures.bridges(2), x -> x.close(1, false), 0);
        });
        all.promise(8, "`bridge`: its number", c -> {
            c.recorded("the first one", () -> Fixtures.bridges(6), x -> x.close(0, true), 0);
            c.recorded("the last one", () -> Fixtures.bridges(6), x -> x.close(5, true), 0);
        });
        all.promise(8, "`closed`: whether it is closed", c -> {
            BridgeRounds x = Fixtures.bridges(1);
            boolean[] wanted = {true, true, false, false, true};
            for (boolean closed : wanted) {
                x.close(0, closed);
                c.due("behind close(0, " + closed + ")", x.bridge(0, 7), closed ? 1 : 0);
            }
        });
        all.promise(8, "Returns 1 if it was closed before, else 0;", c -> {
            BridgeRounds x = Fixtures.bridges(1);
            c.due("open, to be closed", x.close(0, true), 0);
            c.due("closed, to be closed", x.close(0, true), 1);
            c.due("closed, to be opened", x.close(0, false), 1);
            c.due("open, to be opened", x.close(0, false), 0);
        });
        all.promise(8, "BAD_INDEX if there is no such bridge.", c -> {
            for (int bridge : Fixtures.outside(0, 1)) {
                c.still("close(" + bridge + ", true)", () -> Fixtures.bridges(2), x -> x.close(bridge, true), BAD_INDEX);
                c.still("close(" + bridge + ", false)", () -> Fixtures.bridges(2), x -> x.close(bridge, false), BAD_INDEX);
            }
        });
    }

    private static void count(Sentences all) {
        all.promise(9, "Returns a number.", c ->
            c.still("count(1)", () -> Fixtures.bridges(2), x -> x.count(1), 8));
        all.promise(9, "`what`: 0 towns,", c -> {
            c.still("none", BridgeRounds::new, x -> x.count(0), 0);
            c.still("all ten", () -> Fixtures.towns(10), x -> x.count(0), 10);
        });
        all.promise(9, "1 roads,", c -> {
            c.still("none", () -> Fixtures.towns(10), x -> x.count(1), 0);
            c.still("all twenty", () -> Fixtures.roads(4, 20), x -> x.count(1), 20);
        });
        all.promise(9, "2 bridges,", c -> {
            c.still("none", () -> Fixtures.roads(4, 20), x -> x.count(2), 0);
            c.still("all six", () -> Fixtures.bridges(6), x -> x.count(2), 6);
        });
        all.promise(9, "3 lines,", c -> {
            BridgeRounds x = Fixtures.frame();
            for (int line = 1; line <= 8; line++) {
                x.addLine(0, 0, 1);
                c.due("count(3)", x.count(3), line);
            }
        });
        all.promise(9, "4 bidders,", c -> {
            BridgeRounds x = new BridgeRounds();
            for (int bidder = 1; bidder <= 3; bidder++) {
                x.addBidder(0, 1, 1, 1, 1);
                c.due("count(4)", x.count(4), bidder);
            }
        });
        all.promise(9, "Returns the number;", c ->
            c.still("count(2)", () -> Fixtures.bridges(4), x -> x.count(2), 4));
        all.promise(9, "BAD_VALUE if what is out of range.", c -> {
            for (int what : Fixtures.outside(0, 10)) {
                c.still("count(" + what + ")", Fixtures::frame, x -> x.count(what), BAD_VALUE);
            }
        });
    }

    private static void countOfYears(Sentences all) {
        all.promise(9, "5 the year,", c -> {
            BridgeRounds x = Fixtures.bridges(1);
            x.pass(50);
            x.pass(1);
            c.due("count(5)", x.count(5), 51);
        });
        all.promise(9, "6 how many inspections there were (building is none),", c -> {
            BridgeRounds x = Fixtures.bridges(3);
            c.due("building", x.count(6), 0);
            x.inspect(1);
            x.inspect(1);
            c.due("the same one twice", x.count(6), 2);
            x.pass(1);
            x.round(0, 200);
            c.due("and those of a round", x.count(6), 5);
        });
        all.promise(9, "7 spent for inspections,", c -> {
            BridgeRounds x = Fixtures.frame();
            c.due("none", x.count(7), 0);
            x.inspect(0);
            c.due("one of four components", x.count(7), 9);
        });
        all.promise(9, "8 spent for repairs,", c -> {
            BridgeRounds x = Fixtures.frame();
            x.inspect(0);
            x.addBidder(100, 2, 3, 4, 5);
            x.addLine(0, 1, 9);
            c.due("before the repair", x.count(8), 0);
            x.repair();
            c.due("behind it", x.count(8), 127);
            c.due("not spent for inspections", x.count(7), 9);
        });
        all.promise(9, "9 bridges that are due,", c -> {
            BridgeRounds x = Fixtures.bridges(6);
            c.due("in the year of building", x.count(9), 0);
            x.pass(1);
            c.due("all six", x.count(9), 6);
            x.close(4, true);
            c.due("a closed one too", x.count(9), 6);
            x.inspect(2);
            c.due("all but one", x.count(9), 5);
        });
        all.promise(9, "10 bridges whose true rating is less than the told one", c -> {
            BridgeRounds x = Fixtures.roads(4, 8);
            Fixtures.bridgeOf(x, 0, 5);
            Fixtures.bridgeOf(x, 1, 5);
            Fixtures.bridgeOf(x, 2, 5);
            c.due("all as told", x.count(10), 0);
            x.setRating(0, 0, 6);
            c.due("a greater one", x.count(10), 0);
            x.setRating(1, 0, 4);
            c.due("one less", x.count(10), 1);
            x.setRating(2, 0, 0);
            c.due("two less", x.count(10), 2);
        });
    }

    private static void road(Sentences all) {
        all.promise(10, "Returns a part of a road.", c ->
            c.still("road(7, 2)", () -> Fixtures.bridges(2), x -> x.road(7, 2), 18));
        all.promise(10, "`road`: its number", c -> {
            c.still("the first one", () -> Fixtures.roads(4, 20), x -> x.road(0, 2), 11);
            c.still("the last one", () -> Fixtures.roads(4, 20), x -> x.road(19, 2), 30);
        });
        all.promise(10, "`what`: 0 the town that was told first,", c -> {
            BridgeRounds x = Fixtures.towns(4);
            x.addRoad(3, 1, 5);
            x.addRoad(1, 3, 5);
            c.due("the higher one", x.road(0, 0), 3);
            c.due("the lower one", x.road(1, 0), 1);
        });
        all.promise(10, "1 the other one,", c -> {
            BridgeRounds x = Fixtures.towns(4);
            x.addRoad(3, 1, 5);
            x.addRoad(1, 3, 5);
            c.due("the lower one", x.road(0, 1), 1);
            c.due("the higher one", x.road(1, 1), 3);
        });
        all.promise(10, "2 its length,", c ->
            c.still("road(3, 2)", () -> Fixtures.bridges(2), x -> x.road(3, 2), 14));
        all.promise(10, "3 its bridge (NONE without one)", c -> {
            c.still("with a bridge", () -> Fixtures.bridges(2), x -> x.road(1, 3), 1);
            c.still("without one", () -> Fixtures.bridges(2), x -> x.road(2, 3), NONE);
        });
        all.promise(10, "Returns the part;", c ->
            c.still("road(5, 0)", () -> Fixtures.bridges(2), x -> x.road(5, 0), 1));
        all.promise(10, "BAD_INDEX if there is no such road;", c -> {
            for (int road : Fixtures.outside(0, 7)) {
                c.still("road(" + road + ", 0)", () -> Fixtures.bridges(2), x -> x.road(road, 0), BAD_INDEX);
            }
            c.still("road(20, 0)", () -> Fixtures.roads(4, 20), x -> x.road(20, 0), BAD_INDEX);
            c.still("no roads", () -> Fixtures.towns(2), x -> x.road(0, 0), BAD_INDEX);
        });
        all.promise(10, "BAD_VALUE if what is out of range.", c -> {
            for (int what : Fixtures.outside(0, 3)) {
                c.still("road(0, " + what + ")", () -> Fixtures.bridges(2), x -> x.road(0, what), BAD_VALUE);
            }
        });
    }

    private static void bridge(Sentences all) {
        all.promise(11, "Returns a property of a bridge.", c ->
            c.still("bridge(0, 1)", Fixtures::frame, x -> x.bridge(0, 1), 4));
        all.promise(11, "`bridge`: its number", c -> {
            c.still("the first one", () -> Fixtures.bridges(6), x -> x.bridge(0, 0), 0);
            c.still("the last one", () -> Fixtures.bridges(6), x -> x.bridge(5, 0), 5);
        });
        all.promise(11, "`what`: 0 its road,", c -> {
            BridgeRounds x = Fixtures.roads(4, 8);
            x.addBridge(7);
            x.addBridge(3);
            c.due("bridge(0, 0)", x.bridge(0, 0), 7);
            c.due("bridge(1, 0)", x.bridge(1, 0), 3);
        });
        all.promise(11, "1 how many components it has,", c -> {
            c.still("none", () -> Fixtures.components(0), x -> x.bridge(0, 1), 0);
            c.still("six", () -> Fixtures.components(6), x -> x.bridge(0, 1), 6);
        });
        all.promise(11, "2 its true rating,", c -> {
            c.still("of the frame", Fixtures::frame, x -> x.bridge(0, 2), 7);
            c.still("without components", () -> Fixtures.bridges(1), x -> x.bridge(0, 2), 0);
        });
        all.promise(11, "3 its told rating,", c -> {
            BridgeRounds x = Fixtures.frame();
            c.due("before an inspection", x.bridge(0, 3), 0);
            x.inspect(0);
            x.setRating(0, 0, 1);
            c.due("what was told", x.bridge(0, 3), 7);
        });
        all.promise(11, "Returns the property;", c ->
            c.still("bridge(3, 0)", () -> Fixtures.bridges(6), x -> x.bridge(3, 0), 3));
        all.promise(11, "BAD_INDEX if there is no such bridge;", c -> {
            for (int bridge : Fixtures.outside(0, 1)) {
                c.still("bridge(" + bridge + ", 0)", () -> Fixtures.bridges(2), x -> x.bridge(bridge, 0), BAD_INDEX);
            }
            c.still("bridge(6, 0)", () -> Fixtures.bridges(6), x -> x.bridge(6, 0), BAD_INDEX);
            c.still("no bridges", () -> Fixtures.roads(2, 1), x -> x.bridge(0, 0), BAD_INDEX);
        });
        all.promise(11, "BAD_VALUE if what is out of range.", c -> {
            for (int what : Fixtures.outside(0, 8)) {
                c.still("bridge(0, " + what + ")", () -> Fixtures.bridges(2), x -> x.bridge(0, what), BAD_VALUE);
            }
        });
    }

    private static void bridgeByYears(Sentences all) {
        all.promise(11, "4 the year of its latest inspection,", c -> {
            BridgeRounds x = Fixtures.later(Fixtures.frame(), 3);
            c.due("that of building", x.bridge(0, 4), 0);
            x.inspect(0);
            x.pass(2);
            c.due("bridge(0, 4)", x.bridge(0, 4), 3);
        });
        all.promise(11, "5 the year in which it is due next,", c -> {
            BridgeRounds x = Fixtures.later(Fixtures.frame(), 3);
            c.due("it is due since the year 1", x.bridge(0, 5), 1);
            x.inspect(0);
            c.due("told 7", x.bridge(0, 5), 7);
            BridgeRounds last = Fixtures.later(Fixtures.frame(), 1000);
            last.inspect(0);
            c.due("behind the last year", last.bridge(0, 5), 1001);
        });
        all.promise(11, "6: 1 if it is due, else 0;", c -> {
            BridgeRounds x = Fixtures.frame();
            c.due("in the year of building", x.bridge(0, 6), 0);
            x.inspect(0);
            x.pass(3);
            c.due("a year too early", x.bridge(0, 6), 0);
            x.pass(1);
            c.due("in its year", x.bridge(0, 6), 1);
            x.pass(50);
            c.due("long behind", x.bridge(0, 6), 1);
        });
        all.promise(11, "7: 1 if it is closed, else 0;", c -> {
            BridgeRounds x = Fixtures.bridges(2);
            c.due("at first", x.bridge(1, 7), 0);
            x.close(1, true);
            c.due("closed", x.bridge(1, 7), 1);
            c.due("the other one", x.bridge(0, 7), 0);
        });
        all.promise(11, "8 its post", c -> {
            BridgeRounds x = Fixtures.frame();
            c.due("told 0", x.bridge(0, 8), 0);
            x.inspect(0);
            c.due("told 7", x.bridge(0, 8), 40);
        });
    }

    private static void component(Sentences all) {
        all.promise(12, "Returns a property of a component.", c ->
            c.still("component(0, 3, 3)", Fixtures::frame, x -> x.component(0, 3, 3), 60));
        all.promise(12, "`bridge`: its number", c -> {
            BridgeRounds x = Fixtures.bridges(6);
            x.addComponent(0, 0, 4, 0);
            x.addComponent(5, 0, 6, 0);
            c.due("the first one", x.component(0, 0, 1), 4);
            c.due("the last one", x.component(5, 0, 1), 6);
        });
        all.promise(12, "`component`: its number", c -> {
            c.still("the first one", () -> Fixtures.components(6), x -> x.component(0, 0, 0), 0);
            c.still("the last one", () -> Fixtures.components(6), x -> x.component(0, 5, 0), 1);
        });
        all.promise(12, "`what`: 0 its kind,", c -> {
            for (int component = 0; component < 4; component++) {
                int one = component;
                c.still("component " + one, Fixtures::frame, x -> x.component(0, one, 0), one);
            }
        });
        all.promise(12, "1 its rating,", c ->
            c.still("component(0, 3, 1)", Fixtures::frame, x -> x.component(0, 3, 1), 8));
        all.promise(12, "2 its wear,", c -> {
            BridgeRounds x = Fixtures.frame();
            c.due("at first", x.component(0, 3, 2), 0);
            x.pass(1);
            c.due("a year later", x.component(0, 3, 2), 60);
        });
        all.promise(12, "3 its rate,", c ->
            c.still("component(0, 1, 3)", Fixtures::frame, x -> x.component(0, 1, 3), 30));
        all.promise(12, "4 its strength,", c -> {
            c.still("the deck", Fixtures::frame, x -> x.component(0, 0, 4), 7);
            c.still("on the ground", Fixtures::frame, x -> x.component(0, 2, 4), 5);
            c.still("on nothing", Fixtures::frame, x -> x.component(0, 3, 4), 0);
        });
        all.promise(12, "5 the set of what it rests on (the sum of 2^c for each component c, and 64 for the ground)", c -> {
            BridgeRounds x = Fixtures.components(6);
            c.due("nothing", x.component(0, 0, 5), 0);
            int sum = 0;
            for (int on = 1; on <= 5; on++) {
                x.rest(0, 0, on);
                sum += new int[] {1, 2, 4, 8, 16, 32}[on];
                c.due("up to the component " + on, x.component(0, 0, 5), sum);
            }
            x.rest(0, 0, NONE);
            c.due("and the ground", x.component(0, 0, 5), 126);
        });
    }

    private static void componentRefused(Sentences all) {
        all.promise(12, "Returns the property;", c ->
            c.still("component(0, 1, 1)", Fixtures::frame, x -> x.component(0, 1, 1), 7));
        all.promise(12, "BAD_INDEX if there is no such bridge or component;", c -> {
            for (int bridge : Fixtures.outside(0, 0)) {
                c.still("bridge " + bridge, Fixtures::frame, x -> x.component(bridge, 0, 0), BAD_INDEX);
            }
            for (int component : Fixtures.outside(0, 3)) {
                c.still("component " + component, Fixtures::frame, x -> x.component(0, component, 0), BAD_INDEX);
            }
            c.still("component 6", () -> Fixtures.components(6), x -> x.component(0, 6, 0), BAD_INDEX);
            c.still("without components", () -> Fixtures.components(6), x -> x.component(1, 0, 0), BAD_INDEX);
        });
        all.promise(12, "BAD_VALUE if what is out of range.", c -> {
            for (int what : Fixtures.outside(0, 5)) {
                c.still("component(0, 0, " + what + ")", Fixtures::frame, x -> x.component(0, 0, what), BAD_VALUE);
            }
        });
    }

    /** A chain, 0 on 1 on 2 on the ground, with the given ratings. */
    private static BridgeRounds chain(int rating0, int rating1, int rating2) {
        BridgeRounds x = Fixtures.bridges(1);
        x.addComponent(0, 0, rating0, 0);
        x.addComponent(0, 0, rating1, 0);
        x.addComponent(0, 0, rating2, 0);
        x.rest(0, 0, 1);
        x.rest(0, 1, 2);
        x.rest(0, 2, NONE);
        return x;
    }

    private static void weak(Sentences all) {
        all.promise(13, "Tells which components are weak:", c ->
            c.still("weak(0)", Fixtures::frame, x -> x.weak(0), 2));
        all.promise(13, "those that make the true rating of the bridge less, if their rating is made less by 1", c -> {
            c.still("as strong all three", () -> chain(5, 5, 5), x -> x.weak(0), 7);
            c.still("one has 1 more", () -> chain(5, 6, 5), x -> x.weak(0), 5);
            c.still("the last one", () -> chain(9, 9, 8), x -> x.weak(0), 4);
            BridgeRounds x = chain(5, 5, 5);
            x.rest(0, 0, NONE);
            c.due("the ground bears too", x.weak(0), 1);
        });
        all.promise(13, "(one with the rating 0 is not weak).", c -> {
            c.still("all 0", () -> chain(0, 0, 0), x -> x.weak(0), 0);
            c.still("one 0", () -> chain(5, 0, 5), x -> x.weak(0), 0);
            c.still("all 1", () -> chain(1, 1, 1), x -> x.weak(0), 7);
        });
        all.promise(13, "`bridge`: its number", c -> {
            BridgeRounds x = Fixtures.roads(4, 8);
            for (int bridge = 0; bridge < 6; bridge++) {
                Fixtures.bridgeOf(x, bridge, bridge);
            }
            c.due("the first one", x.weak(0), 0);
            c.due("the last one", x.weak(5), 1);
        });
        all.promise(13, "Returns the set (the sum of 2^c for each component c);", c -> {
            c.still("without components", () -> Fixtures.bridges(1), x -> x.weak(0), 0);
            BridgeRounds x = Fixtures.components(6);
            for (int component = 0; component < 5; component++) {
                x.rest(0, component, component + 1);
            }
            c.due("nothing bears", x.weak(0), 0);
            x.rest(0, 5, NONE);
            c.due("all six", x.weak(0), 63);
        });
        all.promise(13, "BAD_INDEX if there is no such bridge.", c -> {
            for (int bridge : Fixtures.outside(0, 0)) {
                c.still("weak(" + bridge + ")", Fixtures::frame, x -> x.weak(bridge), BAD_INDEX);
            }
        });
    }
}
