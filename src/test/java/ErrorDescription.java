import java.util.function.Consumer;
import java.util.function.Supplier;
import java.util.function.ToLongFunction;

/** The sentences about the history and the error codes, and that about the 512 calls. */
final class ErrorDescription {
    private static final int NONE = BridgeRounds.NONE;
    private static final int BAD_INDEX = BridgeRounds.BAD_INDEX;
    private static final int BAD_VALUE = BridgeRounds.BAD_VALUE;
    private static final int BAD_STATE = BridgeRounds.BAD_STATE;
    private static final int FULL = BridgeRounds.FULL;
    private static final int CALLS = 512;

    private ErrorDescription() {
    }

    static void tests(Sentences all) {
        history(all);
        codes(all);
        order(all);
        orderOfQuestions(all);
        orderOfRepairs(all);
        none(all);
        refused(all);
        manyCalls(all);
    }

    private static void history(Sentences all) {
        all.description(31, "A history of at most 5 states is kept.", c -> {
            for (int calls = 0; calls <= 11; calls++) {
                BridgeRounds x = new BridgeRounds();
                for (int call = 0; call < calls; call++) {
                    x.pass(1);
                }
                int kept = Math.min(5, calls);
                for (int left = kept - 1; left >= 0; left--) {
                    c.due("undo() behind " + calls + " calls", x.undo(), left);
                }
                c.due("no more behind " + calls + " calls", x.undo(), BAD_STATE);
            }
        });
        all.description(31, "The methods that are said to be recorded record the whole state (all but the text) before each call that returns no error,", c -> {
            BridgeRounds x = Fixtures.lines(5);
            x.undo();
            x.undo();
            x.undo();
            x.undo();
            x.undo();
            long before = x.digest();
            x.pass(3);
            x.inspect(0);
            x.setRating(0, 1, 1);
            x.repair();
            x.close(0, true);
            Fixtures.type(x, "0-1:5");
            for (int left = 4; left >= 0; left--) {
                c.due("undo()", x.undo(), left);
            }
            c.due("the whole state", x.digest(), before);
            c.due("but not the text", x.clearText(), 5);
            BridgeRounds y = new BridgeRounds();
            y.addTowns(11);
            y.addRoad(0, 1, 5);
            y.pass(0);
            y.addBidder(0, 0, 0, 0, 0);
            c.due("no state by calls that return an error", y.undo(), BAD_STATE);
        });
        String nothing = "even if it changes nothing;";
        all.description(7, nothing, c ->
            c.recorded("setRating", Fixtures::frame, x -> x.setRating(0, 0, 9), 9));
        all.description(8, nothing, c ->
            c.recorded("close", () -> Fixtures.bridges(1), x -> x.close(0, false), 0));
        all.description(16, nothing, c ->
            c.recorded("round", () -> Fixtures.towns(1), x -> x.round(0, 1), 0));
        all.description(25, nothing, c ->
            c.recorded("clearLines", BridgeRounds::new, x -> x.clearLines(), 0));
        all.description(30, nothing, c ->
            c.recorded("repair", BridgeRounds::new, x -> x.repair(), 0));
        all.description(31, "when one more is recorded, the oldest one is dropped.", c -> {
            BridgeRounds x = new BridgeRounds();
            for (int year = 1; year <= 6; year++) {
                x.pass(1);
            }
            for (int back = 1; back <= 5; back++) {
                x.undo();
                c.due("the year", x.count(5), 6 - back);
            }
            c.due("the year 0 was dropped", x.undo(), BAD_STATE);
            c.due("the year", x.count(5), 1);
        });
        all.description(31, "undo() removes and restores the latest one.", c -> {
            BridgeRounds x = new BridgeRounds();
            for (int year = 1; year <= 7; year++) {
                x.pass(1);
            }
            x.undo();
            x.undo();
            c.due("the year", x.count(5), 5);
            x.pass(50);
            c.due("it is not recorded itself", x.undo(), 3);
            c.due("the year", x.count(5), 5);
            x.undo();
            c.due("the year before", x.count(5), 4);
        });
    }

    private static void codes(Sentences all) {
        all.description("The constants", "NONE (-1) stands for \"there is none\".", c -> {
            c.due("NONE", BridgeRounds.NONE, -1);
            c.due("no bridge", Fixtures.roads(2, 1).road(0, 3), -1);
            c.due("no way", Fixtures.towns(2).way(0, 1, 1), -1);
            c.due("no fault", Fixtures.withText(Fixtures.towns(2), "0-1:5").textFault(), -1);
        });
        all.description("The constants", "The error codes are BAD_INDEX (-2): there is no such town, road, bridge, component, line or bidder;", c -> {
            c.due("BAD_INDEX", BridgeRounds.BAD_INDEX, -2);
            c.due("no such town", Fixtures.towns(2).way(0, 2, 1), -2);
            c.due("no such road", Fixtures.roads(2, 1).road(1, 0), -2);
            c.due("no such bridge", Fixtures.bridges(1).bridge(1, 0), -2);
            c.due("no such component", Fixtures.frame().component(0, 4, 0), -2);
            c.due("no such line", Fixtures.lines(2).line(2, 0), -2);
            c.due("no such bidder", Fixtures.lines(2).bidder(3, 0), -2);
        });
        all.description("The constants", "BAD_VALUE (-3): another argument is out of its range;", c -> {
            c.due("BAD_VALUE", BridgeRounds.BAD_VALUE, -3);
            c.due("pass(51)", new BridgeRounds().pass(51), -3);
            c.due("type(256)", new BridgeRounds().type(256), -3);
        });
        all.description("The constants", "BAD_STATE (-4): the call is not possible, as told;", c -> {
            c.due("BAD_STATE", BridgeRounds.BAD_STATE, -4);
            c.due("undo()", new BridgeRounds().undo(), -4);
            c.due("repair()", Fixtures.noBidders().repair(), -4);
        });
        all.description("The constants", "FULL (-5): there is no room.", c -> {
            c.due("FULL", BridgeRounds.FULL, -5);
            c.due("an eleventh town", Fixtures.towns(10).addTowns(1), -5);
        });
        all.description("The constants", "`NONE = -1, BAD_INDEX = -2, BAD_VALUE = -3, BAD_STATE = -4, FULL = -5`: NONE: there is none. The others are error codes.", c -> {
            c.due("NONE", BridgeRounds.NONE, -1);
            c.due("BAD_INDEX", BridgeRounds.BAD_INDEX, -2);
            c.due("BAD_VALUE", BridgeRounds.BAD_VALUE, -3);
            c.due("BAD_STATE", BridgeRounds.BAD_STATE, -4);
            c.due("FULL", BridgeRounds.FULL, -5);
        });
    }

    /** A map on which there is no room for anything: 10 towns, 20 roads, 6 bridges and components, 3 bidders, 8 lines. */
    private static BridgeRounds full() {
        BridgeRounds x = Fixtures.roads(10, 20);
        for (int bridge = 0; bridge < 6; bridge++) {
            x.addBridge(bridge);
            x.addComponent(0, 0, 5, 0);
        }
        for (int bidder = 0; bidder < 3; bidder++) {
            x.addBidder(0, 1, 1, 1, 1);
        }
        for (int line = 0; line < 8; line++) {
            x.addLine(0, 0, 1);
        }
        return x;
    }

    private static BridgeRounds lastYear() {
        return Fixtures.later(Fixtures.frame(), 1000);
    }

    private static void order(Sentences all, int promise, Consumer<Check> test) {
        all.description(promise, "If several apply to a call, the first one in this order is returned;", test);
    }

    private static void order(Sentences all) {
        Supplier<BridgeRounds> full = ErrorDescription::full;
        order(all, 2, c -> {
            c.still("too many, full", full, x -> x.addTowns(11), BAD_VALUE);
            c.still("none, full", full, x -> x.addTowns(0), BAD_VALUE);
            c.still("full", full, x -> x.addTowns(1), FULL);
        });
        order(all, 3, c -> {
            c.still("a bad town and length, full", full, x -> x.addRoad(0, 10, 0), BAD_INDEX);
            c.still("a bad town twice, full", full, x -> x.addRoad(10, 10, 1), BAD_INDEX);
            c.still("a bad town, full", full, x -> x.addRoad(-1, 0, 1), BAD_INDEX);
            c.still("both the same, full", full, x -> x.addRoad(1, 1, 1), BAD_VALUE);
            c.still("a bad length, full", full, x -> x.addRoad(0, 1, 100), BAD_VALUE);
            c.still("full", full, x -> x.addRoad(0, 1, 1), FULL);
        });
        order(all, 4, c -> {
            c.still("a bad road, full", full, x -> x.addBridge(20), BAD_INDEX);
            c.still("a second one, full", full, x -> x.addBridge(5), BAD_STATE);
            c.still("full", full, x -> x.addBridge(6), FULL);
        });
        order(all, 5, c -> {
            c.still("a bad bridge and bad values", full, x -> x.addComponent(6, 4, 10, 61), BAD_INDEX);
            c.still("a bad kind, full", full, x -> x.addComponent(0, 4, 0, 0), BAD_VALUE);
            c.still("a bad rating, full", full, x -> x.addComponent(0, 0, 10, 0), BAD_VALUE);
            c.still("a bad rate, full", full, x -> x.addComponent(0, 0, 0, 61), BAD_VALUE);
            c.still("full", full, x -> x.addComponent(0, 0, 0, 0), FULL);
        });
        order(all, 6, c -> {
            c.still("a bad component, on a lower one", full, x -> x.rest(0, 6, 0), BAD_INDEX);
            c.still("on a bad component, and lower", full, x -> x.rest(0, 3, -2), BAD_INDEX);
            c.still("a bad bridge, on a lower one", full, x -> x.rest(6, 1, 0), BAD_INDEX);
            c.still("on a lower one", full, x -> x.rest(0, 3, 2), BAD_VALUE);
        });
        order(all, 7, c -> {
            c.still("a bad component and rating", full, x -> x.setRating(0, 6, 10), BAD_INDEX);
            c.still("a bad bridge and rating", full, x -> x.setRating(6, 0, -1), BAD_INDEX);
        });
        order(all, 14, c -> {
            c.still("too many years, full", ErrorDescription::lastYear, x -> x.pass(51), BAD_VALUE);
            c.still("none, full", ErrorDescription::lastYear, x -> x.pass(0), BAD_VALUE);
            c.still("full", ErrorDescription::lastYear, x -> x.pass(1), FULL);
        });
    }

    private static void orderOfQuestions(Sentences all) {
        Supplier<BridgeRounds> full = ErrorDescription::full;
        order(all, 10, c -> c.still("a bad road and part", full, x -> x.road(20, 4), BAD_INDEX));
        order(all, 11, c -> c.still("a bad bridge and property", full, x -> x.bridge(6, 9), BAD_INDEX));
        order(all, 12, c -> {
            c.still("a bad component and property", full, x -> x.component(0, 6, 6), BAD_INDEX);
            c.still("a bad bridge and property", full, x -> x.component(6, 0, -1), BAD_INDEX);
        });
        order(all, 16, c -> c.still("a bad town and hours", full, x -> x.round(10, 0), BAD_INDEX));
        order(all, 17, c -> {
            c.still("a bad town, hours and index", full, x -> x.ofRound(10, 201, -1), BAD_INDEX);
            c.still("a bad town and index", full, x -> x.ofRound(-1, 200, -1), BAD_INDEX);
        });
        order(all, 19, c -> {
            c.still("a bad end and weight", full, x -> x.way(0, 10, 0), BAD_INDEX);
            c.still("a bad start and weight", full, x -> x.way(10, 0, 61), BAD_INDEX);
        });
        order(all, 20, c -> {
            c.still("a bad start, weight and index", full, x -> x.wayTown(10, 0, 61, -1), BAD_INDEX);
            c.still("a bad end and index", full, x -> x.wayTown(0, 10, 60, -1), BAD_INDEX);
        });
        order(all, 21, c -> c.still("a bad bridge and weight", full, x -> x.detour(6, 61), BAD_INDEX));
        order(all, 22, c -> c.still("a bad town twice", full, x -> x.heaviest(10, 10), BAD_INDEX));
        order(all, 26, c -> c.still("a bad line and part", full, x -> x.line(8, 4), BAD_INDEX));
        order(all, 27, c -> c.still("a bad bidder and part", full, x -> x.bidder(3, 7), BAD_INDEX));
    }

    private static void orderOfRepairs(Sentences all) {
        Supplier<BridgeRounds> full = ErrorDescription::full;
        order(all, 23, c -> {
            c.still("a bad fee, full", full, x -> x.addBidder(1000, 1, 1, 1, 1), BAD_VALUE);
            c.still("a bad price, full", full, x -> x.addBidder(0, 1, 1, 1, 0), BAD_VALUE);
            c.still("full", full, x -> x.addBidder(0, 1, 1, 1, 1), FULL);
        });
        order(all, 24, c -> {
            c.still("a bad component and points, full", full, x -> x.addLine(0, 6, 0), BAD_INDEX);
            c.still("a bad bridge, full", full, x -> x.addLine(6, 0, 1), BAD_INDEX);
            c.still("bad points, full", full, x -> x.addLine(0, 0, 10), BAD_VALUE);
            c.still("full", full, x -> x.addLine(0, 0, 1), FULL);
        });
        order(all, 32, c -> {
            Supplier<BridgeRounds> typed = () -> Fixtures.withText(full(), " ".repeat(100));
            c.still("a bad byte, full", typed, x -> x.type(256), BAD_VALUE);
            c.still("a bad byte below, full", typed, x -> x.type(-1), BAD_VALUE);
            c.still("full", typed, x -> x.type(0), FULL);
        });
    }

    private static void none(Sentences all, int promise, Consumer<Check> test) {
        all.description(promise, "NONE is returned only if no error applies.", test);
    }

    private static void none(Sentences all) {
        none(all, 17, c -> {
            c.still("not so many", Fixtures::twoDue, x -> x.ofRound(0, 1, 0), NONE);
            c.still("a bad index too", Fixtures::twoDue, x -> x.ofRound(0, 1, -1), BAD_VALUE);
            c.still("bad hours too", Fixtures::twoDue, x -> x.ofRound(0, 0, 9), BAD_VALUE);
            c.still("a bad town too", Fixtures::twoDue, x -> x.ofRound(4, 1, 9), BAD_INDEX);
        });
        none(all, 18, c -> {
            c.still("never", () -> Fixtures.bridges(1), x -> x.weakensIn(0), NONE);
            c.still("a bad bridge", () -> Fixtures.bridges(1), x -> x.weakensIn(1), BAD_INDEX);
        });
        none(all, 19, c -> {
            c.still("no way", Fixtures::ring, x -> x.way(0, 4, 60), NONE);
            c.still("a bad weight too", Fixtures::ring, x -> x.way(0, 4, 61), BAD_VALUE);
            c.still("a bad town", Fixtures::ring, x -> x.way(0, 5, 60), BAD_INDEX);
        });
        none(all, 20, c -> {
            c.still("no way", Fixtures::ring, x -> x.wayTown(0, 4, 1, 9), NONE);
            c.still("a bad weight too", Fixtures::ring, x -> x.wayTown(0, 4, 0, 0), BAD_VALUE);
            c.still("a bad index too", Fixtures::ring, x -> x.wayTown(0, 4, 1, -1), BAD_VALUE);
            c.still("a bad town", Fixtures::ring, x -> x.wayTown(5, 4, 1, 0), BAD_INDEX);
        });
        none(all, 21, c -> {
            c.still("no such way", ErrorDescription::oneRoad, x -> x.detour(0, 1), NONE);
            c.still("a bad weight too", ErrorDescription::oneRoad, x -> x.detour(0, 0), BAD_VALUE);
            c.still("a bad bridge", ErrorDescription::oneRoad, x -> x.detour(1, 1), BAD_INDEX);
        });
        none(all, 22, c -> {
            c.still("none has a way", ErrorDescription::oneRoad, x -> x.heaviest(0, 1), NONE);
            c.still("both the same", ErrorDescription::oneRoad, x -> x.heaviest(0, 0), BAD_STATE);
            c.still("a bad town", ErrorDescription::oneRoad, x -> x.heaviest(0, 2), BAD_INDEX);
        });
        none(all, 26, c -> {
            c.still("no bidders", Fixtures::noBidders, x -> x.line(0, 3), NONE);
            c.still("a bad line too", Fixtures::noBidders, x -> x.line(1, 3), BAD_INDEX);
            c.still("a bad part too", Fixtures::noBidders, x -> x.line(0, 4), BAD_VALUE);
        });
        none(all, 30, c -> {
            c.still("no award", Fixtures::noBidders, x -> x.award(), NONE);
            c.still("no repair", Fixtures::noBidders, x -> x.repair(), BAD_STATE);
        });
    }

    private static BridgeRounds oneRoad() {
        BridgeRounds x = Fixtures.towns(2);
        x.addRoad(0, 1, 5);
        x.addBridge(0);
        return x;
    }

    /** A map with all kinds of things, whose text has a fault at its end. */
    private static BridgeRounds rich() {
        return Fixtures.withText(Fixtures.lines(4), "0-1:5;0-");
    }

    /** On that map. */
    private static void refused(Sentences all, int promise, int wanted, ToLongFunction<BridgeRounds> act) {
        refused(all, promise, wanted, ErrorDescription::rich, act);
    }

    private static void refused(Sentences all, int promise, int wanted, Supplier<BridgeRounds> map,
            ToLongFunction<BridgeRounds> act) {
        all.description(promise, "A call that returns an error changes nothing.", c ->
            c.still("the call", map, act, wanted));
    }

    private static void refused(Sentences all) {
        refused(all, 2, BAD_VALUE, x -> x.addTowns(0));
        refused(all, 2, FULL, x -> x.addTowns(7));
        refused(all, 3, BAD_INDEX, x -> x.addRoad(0, 4, 5));
        refused(all, 3, BAD_VALUE, x -> x.addRoad(0, 1, 100));
        refused(all, 3, FULL, ErrorDescription::full, x -> x.addRoad(0, 1, 5));
        refused(all, 4, BAD_INDEX, x -> x.addBridge(8));
        refused(all, 4, BAD_STATE, x -> x.addBridge(0));
        refused(all, 4, FULL, ErrorDescription::full, x -> x.addBridge(7));
        refused(all, 5, BAD_INDEX, x -> x.addComponent(1, 0, 0, 0));
        refused(all, 5, BAD_VALUE, x -> x.addComponent(0, 0, 0, 61));
        refused(all, 5, FULL, ErrorDescription::full, x -> x.addComponent(0, 0, 0, 0));
        refused(all, 6, BAD_INDEX, x -> x.rest(0, 0, 4));
        refused(all, 6, BAD_VALUE, x -> x.rest(0, 1, 0));
        refused(all, 7, BAD_INDEX, x -> x.setRating(0, 4, 5));
        refused(all, 7, BAD_VALUE, x -> x.setRating(0, 1, 10));
        refused(all, 8, BAD_INDEX, x -> x.close(1, true));
        refused(all, 14, BAD_VALUE, x -> x.pass(51));
        refused(all, 14, FULL, ErrorDescription::lastYear, x -> x.pass(1));
        refused(all, 15, BAD_INDEX, x -> x.inspect(1));
        refused(all, 16, BAD_INDEX, Fixtures::twoDue, x -> x.round(4, 200));
        refused(all, 16, BAD_VALUE, Fixtures::twoDue, x -> x.round(1, 201));
        refused(all, 23, BAD_VALUE, Fixtures::noBidders, x -> x.addBidder(1, 1, 1, 1, 100));
        refused(all, 23, FULL, x -> x.addBidder(1, 1, 1, 1, 1));
        refused(all, 24, BAD_INDEX, x -> x.addLine(1, 0, 1));
        refused(all, 24, BAD_VALUE, x -> x.addLine(0, 0, 10));
        refused(all, 24, FULL, ErrorDescription::full, x -> x.addLine(0, 0, 1));
        refused(all, 30, BAD_STATE, Fixtures::noBidders, x -> x.repair());
        refused(all, 31, BAD_STATE, BridgeRounds::new, x -> x.undo());
        refused(all, 32, BAD_VALUE, x -> x.type(256));
        refused(all, 35, BAD_STATE, x -> x.lay());
        all.description(32, "A call that returns an error changes nothing.", c -> {
            BridgeRounds x = Fixtures.withText(Fixtures.towns(2), "0-1:" + " ".repeat(95) + "7");
            c.due("type(48), full", x.type('0'), FULL);
            c.due("type(256), full", x.type(256), BAD_VALUE);
            c.due("the text is as it was", x.lay(), 1);
            c.due("its length too", x.road(0, 2), 7);
        });
    }

    private static void manyCalls(Sentences all) {
        all.whole("An object is used for at most 512 calls after it has been made;", c -> {
            BridgeRounds x = new BridgeRounds();
            for (int call = 1; call <= CALLS; call++) {
                int year = (call + 1) / 2;
                if (call % 2 == 1) {
                    c.due("the call " + call, x.pass(1), year);
                } else {
                    c.due("the call " + call, x.count(5), year);
                }
            }
            BridgeRounds y = Fixtures.twoDue();
            for (int call = 8; call < CALLS; call++) {
                c.due("the call " + call, y.inspect(0), 0);
            }
        });
    }
}
