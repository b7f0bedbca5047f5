/** Promises 14 to 18: years, inspections and rounds. */
final class YearsTest {
    private static final int NONE = BridgeRounds.NONE;
    private static final int BAD_INDEX = BridgeRounds.BAD_INDEX;
    private static final int BAD_VALUE = BridgeRounds.BAD_VALUE;
    private static final int FULL = BridgeRounds.FULL;
    private static final int MIN = Integer.MIN_VALUE;
    private static final int MAX = Integer.MAX_VALUE;

    private static final Check CHECK = new Check("YearsTest");

    public static void main(String[] args) {
        pass();
        wear();
        inspect();
        roundErrors();
        roundHours();
        roundOrder();
        roundOverBridges();
        roundInspects();
        weakensIn();
        CHECK.end();
    }

    private static BridgeRounds inYear(int year) {
        BridgeRounds x = Fixtures.frame();
        for (int passed = 0; passed < year; passed += 50) {
            x.pass(Math.min(50, year - passed));
        }
        return x;
    }

    // Promise 14
    private static void pass() {
        CHECK.recorded("pass(1)", Fixtures::frame, x -> x.pass(1), 1);
        CHECK.recorded("pass(50)", Fixtures::frame, x -> x.pass(50), 50);
        CHECK.recorded("pass(50) more", () -> inYear(7), x -> x.pass(50), 57);
        CHECK.recorded("to the last year", () -> inYear(950), x -> x.pass(50), 1000);
        for (int years : new int[] {0, 51, -1, MIN, MAX}) {
            CHECK.still("pass(" + years + ")", Fixtures::frame, x -> x.pass(years), BAD_VALUE);
            CHECK.still("at the end: pass(" + years + ")", () -> inYear(1000), x -> x.pass(years), BAD_VALUE);
        }
        CHECK.still("behind the last year", () -> inYear(951), x -> x.pass(50), FULL);
        CHECK.still("at the end: pass(1)", () -> inYear(1000), x -> x.pass(1), FULL);
    }

    private static void wear() {
        BridgeRounds one = Fixtures.frame();
        int[] ratings = {9, 7, 5, 8};
        int[] rates = {10, 30, 0, 60};
        int[] wears = new int[4];
        for (int year = 1; year <= 60; year++) {
            CHECK.due("pass(1)", one.pass(1), year);
            BridgeRounds together = inYear(year);
            for (int component = 0; component < 4; component++) {
                wears[component] += rates[component];
                if (wears[component] >= 100) {
                    wears[component] -= 100;
                    ratings[component] = Math.max(0, ratings[component] - 1);
                }
                CHECK.due("rating after " + year, one.component(0, component, 1), ratings[component]);
                CHECK.due("wear after " + year, one.component(0, component, 2), wears[component]);
                CHECK.due("rating after " + year + " at once", together.component(0, component, 1), ratings[component]);
                CHECK.due("wear after " + year + " at once", together.component(0, component, 2), wears[component]);
                CHECK.due("the rate stays", one.component(0, component, 3), rates[component]);
            }
        }
        CHECK.due("told stays", one.bridge(0, 3), 0);
        CHECK.due("no inspection", one.count(6), 0);
    }

    // Promise 15
    private static void inspect() {
        CHECK.recorded("inspect(0)", Fixtures::frame, x -> x.inspect(0), 7);
        CHECK.recorded("without components", () -> Fixtures.bridges(2), x -> x.inspect(1), 0);
        for (int bridge : new int[] {-1, 1, 6, MIN, MAX}) {
            CHECK.still("inspect(" + bridge + ")", Fixtures::frame, x -> x.inspect(bridge), BAD_INDEX);
        }
        BridgeRounds x = Fixtures.frame();
        x.pass(3);
        x.close(0, true);
        CHECK.due("a closed one", x.inspect(0), 7);
        CHECK.due("its year", x.bridge(0, 4), 3);
        CHECK.due("told", x.bridge(0, 3), 7);
        CHECK.due("due next", x.bridge(0, 5), 7);
        CHECK.due("cost", x.count(7), 9);
        CHECK.due("inspections", x.count(6), 1);
        CHECK.due("wear stays", x.component(0, 1, 2), 90);
        x.setRating(0, 1, 2);
        CHECK.due("again", x.inspect(0), 5);
        CHECK.due("cost again", x.count(7), 18);
        CHECK.due("inspections again", x.count(6), 2);
        x.addBridge(3);
        x.inspect(1);
        CHECK.due("cost without components", x.count(7), 23);
        CHECK.due("the other one is as it was", x.bridge(0, 3), 5);
    }

    // Promises 16 and 17: the errors
    private static void roundErrors() {
        for (int town : new int[] {-1, 4, 10, MIN, MAX}) {
            CHECK.still("round(" + town + ", 5)", Fixtures::twoDue, x -> x.round(town, 5), BAD_INDEX);
            CHECK.still("round(" + town + ", 0)", Fixtures::twoDue, x -> x.round(town, 0), BAD_INDEX);
            CHECK.still("ofRound(" + town + ", 5, 0)", Fixtures::twoDue, x -> x.ofRound(town, 5, 0), BAD_INDEX);
            CHECK.still("ofRound(" + town + ", 0, -1)", Fixtures::twoDue, x -> x.ofRound(town, 0, -1), BAD_INDEX);
        }
        for (int hours : new int[] {0, 201, -1, MIN, MAX}) {
            CHECK.still("round(0, " + hours + ")", Fixtures::twoDue, x -> x.round(0, hours), BAD_VALUE);
            CHECK.still("ofRound(0, " + hours + ", 0)", Fixtures::twoDue, x -> x.ofRound(0, hours, 0), BAD_VALUE);
        }
        for (int index : new int[] {-1, -2, MIN}) {
            CHECK.still("ofRound(0, 5, " + index + ")", Fixtures::twoDue, x -> x.ofRound(0, 5, index), BAD_VALUE);
        }
        for (int index : new int[] {2, 5, 6, 7, MAX}) {
            CHECK.still("ofRound(1, 200, " + index + ")", Fixtures::twoDue, x -> x.ofRound(1, 200, index), NONE);
        }
        CHECK.still("ofRound(1, 200, 0)", Fixtures::twoDue, x -> x.ofRound(1, 200, 0), 0);
        CHECK.still("ofRound(1, 200, 1)", Fixtures::twoDue, x -> x.ofRound(1, 200, 1), 1);
        CHECK.still("ofRound(3, 200, 0)", Fixtures::twoDue, x -> x.ofRound(3, 200, 0), 1);
        CHECK.recorded("round(1, 200)", Fixtures::twoDue, x -> x.round(1, 200), 2);
        CHECK.recorded("a round to nothing", Fixtures::twoDue, x -> x.round(0, 1), 0);
        CHECK.recorded("a round without bridges", () -> Fixtures.towns(1), x -> x.round(0, 200), 0);
    }

    /** From the town 1: four hours for the bridge 0, three of driving (21) and four for the bridge 1. */
    private static void roundHours() {
        for (int hours = 1; hours <= 200; hours++) {
            int fit = hours < 4 ? 0 : hours < 11 ? 1 : 2;
            BridgeRounds x = Fixtures.twoDue();
            CHECK.due("ofRound(1, " + hours + ", 0)", x.ofRound(1, hours, 0), fit > 0 ? 0 : NONE);
            CHECK.due("ofRound(1, " + hours + ", 1)", x.ofRound(1, hours, 1), fit > 1 ? 1 : NONE);
            CHECK.due("round(1, " + hours + ")", x.round(1, hours), fit);
            CHECK.due("inspected", x.count(6), fit);
        }
        // The way is rounded up as a whole: 12 + 13 = 25 are three hours, and not two and two.
        BridgeRounds x = Fixtures.towns(4);
        x.addRoad(0, 1, 12);
        x.addRoad(1, 2, 13);
        x.addRoad(2, 3, 9);
        x.addBridge(2);
        x.pass(1);
        CHECK.due("three hours and three", x.ofRound(0, 6, 0), NONE);
        CHECK.due("three hours and four", x.ofRound(0, 7, 0), 0);
        // 10, 11 and 20 of length
        for (int length : new int[] {1, 9, 10, 11, 19, 20, 21, 99}) {
            BridgeRounds y = Fixtures.towns(3);
            y.addRoad(0, 1, length);
            y.addRoad(1, 2, 5);
            y.addBridge(1);
            y.pass(1);
            int needed = (length + 9) / 10 + 4;
            CHECK.due("an hour less than for " + length, y.ofRound(0, needed - 1, 0), NONE);
            CHECK.due("the hours for " + length, y.ofRound(0, needed, 0), 0);
        }
    }

    private static void order(String what, BridgeRounds x, int start, int... due) {
        for (int index = 0; index < due.length; index++) {
            CHECK.due(what + ", place " + index, x.ofRound(start, 200, index), due[index]);
        }
        CHECK.due(what + ", the end", x.ofRound(start, 200, due.length), NONE);
        CHECK.due(what + ", how many", x.round(start, 200), due.length);
    }

    private static void roundOrder() {
        // From 0: the bridge 1 is nearest; from 2 then the bridge 2; then back to the bridge 0.
        BridgeRounds x = Fixtures.towns(6);
        x.addRoad(0, 1, 30);
        x.addRoad(0, 2, 20);
        x.addRoad(2, 3, 20);
        x.addRoad(1, 4, 5);
        x.addRoad(2, 5, 5);
        x.addRoad(3, 5, 5);
        x.addBridge(3);
        x.addBridge(4);
        x.addBridge(5);
        x.pass(1);
        order("the nearest one each time", x, 0, 1, 2, 0);
        order("none is due any more", x, 0);
        // As near: the bridge with the lower number, though its road and town are higher.
        BridgeRounds y = Fixtures.towns(5);
        y.addRoad(0, 1, 10);
        y.addRoad(0, 2, 10);
        y.addRoad(1, 3, 5);
        y.addRoad(2, 4, 5);
        y.addBridge(3);
        y.addBridge(2);
        y.pass(1);
        order("of several the lower number", y, 0, 0, 1);
        // Both towns of its road are as near: it stops at the lower one, whichever was told first.
        for (int told = 0; told < 2; told++) {
            BridgeRounds z = Fixtures.towns(5);
            z.addRoad(0, 1, 10);
            z.addRoad(0, 2, 10);
            z.addRoad(1 + told, 2 - told, 50);
            z.addRoad(1, 3, 10);
            z.addRoad(2, 4, 11);
            z.addRoad(3, 4, 70);
            z.addBridge(2);
            z.addBridge(5);
            z.pass(1);
            CHECK.due("as near: 1 + 4 + 1 + 3 hours", z.ofRound(0, 9, 1), NONE);
            CHECK.due("as near: 1 + 4 + 1 + 4 hours", z.ofRound(0, 10, 1), 1);
        }
        // The higher town is the nearer one, whichever was told first: from there on to the bridge 1.
        for (int told = 0; told < 2; told++) {
            BridgeRounds v = Fixtures.towns(4);
            v.addRoad(1 + told, 2 - told, 5);
            v.addRoad(0, 2, 10);
            v.addRoad(2, 3, 30);
            v.addBridge(0);
            v.addBridge(2);
            v.pass(1);
            CHECK.due("from the higher town", v.ofRound(0, 9, 0), 0);
            CHECK.due("from the higher town, 4 hours are left", v.ofRound(0, 9, 1), 1);
            CHECK.due("from the higher town, 3 hours are left", v.ofRound(0, 8, 1), NONE);
        }
        // The crew goes on from the nearer town, though the other one has the lower number.
        BridgeRounds w = Fixtures.towns(5);
        w.addRoad(4, 3, 10);
        w.addRoad(0, 3, 50);
        w.addRoad(0, 1, 10);
        w.addRoad(1, 2, 10);
        w.addBridge(1);
        w.addBridge(3);
        w.pass(1);
        CHECK.due("on from the nearer town", w.ofRound(4, 200, 1), NONE);
        CHECK.due("on from the lower town", w.ofRound(0, 200, 0), 0);
        CHECK.due("on from the lower town", w.ofRound(0, 200, 1), 1);
    }

    /** The crew weighs 12 tons; posts change as it goes. */
    private static void roundOverBridges() {
        for (int rating = 0; rating <= 9; rating++) {
            BridgeRounds x = Fixtures.towns(4);
            x.addRoad(0, 1, 10);
            x.addRoad(1, 2, 10);
            Fixtures.bridgeOf(x, 0, rating);
            x.pass(1);
            x.addBridge(1);
            x.pass(1);
            x.inspect(0);
            CHECK.due("over a bridge with the rating " + rating, x.ofRound(0, 200, 0), rating >= 4 ? 1 : NONE);
            x.close(0, true);
            CHECK.due("not over a closed one", x.ofRound(0, 200, 0), NONE);
            CHECK.due("from behind it", x.ofRound(1, 200, 0), 1);
            x.close(1, true);
            CHECK.due("to a closed one", x.ofRound(1, 200, 0), 1);
        }
        // The first bridge opens the way to the second one by its new told rating.
        BridgeRounds y = Fixtures.towns(3);
        y.addRoad(0, 1, 10);
        y.addRoad(1, 2, 10);
        y.addBridge(0);
        y.addComponent(0, 0, 5, 0);
        y.rest(0, 0, NONE);
        y.addBridge(1);
        y.pass(1);
        order("told better", y, 0, 0, 1);
        // The first bridge is told worse now, and cuts the way.
        BridgeRounds z = Fixtures.towns(3);
        z.addRoad(0, 1, 10);
        z.addRoad(1, 2, 10);
        Fixtures.bridgeOf(z, 0, 4);
        z.addBridge(1);
        z.setRating(0, 0, 3);
        z.pass(1);
        order("told worse", z, 0, 0);
        CHECK.due("the other one is still due", z.count(9), 1);
        // The hours do not do for the nearest one: the round ends, though a farther one is there.
        BridgeRounds w = Fixtures.towns(3);
        w.addRoad(0, 1, 90);
        w.addRoad(0, 2, 95);
        w.addRoad(1, 2, 1);
        w.addBridge(2);
        w.pass(1);
        CHECK.due("12 hours are too few", w.ofRound(0, 12, 0), NONE);
        CHECK.due("13 hours do", w.ofRound(0, 13, 0), 0);
    }

    private static void roundInspects() {
        BridgeRounds x = Fixtures.frame();
        x.addBridge(2);
        x.pass(4);
        x.close(0, true);
        CHECK.due("round(0, 200)", x.round(0, 200), 2);
        CHECK.due("told of the first", x.bridge(0, 3), 6);
        CHECK.due("told of the second", x.bridge(1, 3), 0);
        CHECK.due("year of the first", x.bridge(0, 4), 4);
        CHECK.due("year of the second", x.bridge(1, 4), 4);
        CHECK.due("it stays closed", x.bridge(0, 7), 1);
        CHECK.due("inspections", x.count(6), 2);
        CHECK.due("spent", x.count(7), 9 + 5);
        CHECK.due("none is due", x.count(9), 0);
        CHECK.due("the year", x.count(5), 4);
        CHECK.due("undo()", x.undo(), 4);
        CHECK.due("due again", x.count(9), 2);
        CHECK.due("not spent", x.count(7), 0);
        BridgeRounds all = Fixtures.bridges(6);
        all.pass(1);
        CHECK.due("all six", all.round(0, 200), 6);
        CHECK.due("all six cost", all.count(7), 30);
    }

    private static BridgeRounds single(int rating, int rate) {
        BridgeRounds x = Fixtures.bridges(1);
        x.addComponent(0, 0, rating, rate);
        x.rest(0, 0, NONE);
        return x;
    }

    // Promise 18
    private static void weakensIn() {
        for (int bridge : new int[] {-1, 1, 6, MIN, MAX}) {
            CHECK.still("weakensIn(" + bridge + ")", Fixtures::frame, x -> x.weakensIn(bridge), BAD_INDEX);
        }
        CHECK.still("without components", () -> Fixtures.bridges(1), x -> x.weakensIn(0), NONE);
        CHECK.still("weakensIn(0)", Fixtures::frame, x -> x.weakensIn(0), 4);
        CHECK.still("in the last year", () -> inYear(1000), x -> x.weakensIn(0), NONE);
        for (int rate = 0; rate <= 60; rate++) {
            int wearing = rate;
            int years = rate == 0 ? NONE : (100 + rate - 1) / rate;
            CHECK.still("rate " + rate, () -> single(5, wearing), x -> x.weakensIn(0), years);
            CHECK.still("rating 0, rate " + rate, () -> single(0, wearing), x -> x.weakensIn(0), NONE);
        }
        BridgeRounds x = single(9, 40);
        x.pass(2);
        CHECK.due("with a wear of 80", x.weakensIn(0), 1);
        x.pass(1);
        CHECK.due("with a wear of 20", x.weakensIn(0), 2);
        // A deck with much more than what it rests on: nine losses of the deck, at 100 years each.
        BridgeRounds y = Fixtures.bridges(1);
        y.addComponent(0, 0, 9, 1);
        y.addComponent(0, 0, 1, 0);
        y.rest(0, 0, 1);
        y.rest(0, 1, NONE);
        CHECK.due("after nine losses", y.weakensIn(0), 900);
        y.setRating(0, 1, 9);
        CHECK.due("after the first loss", y.weakensIn(0), 100);
        // The other support takes over for a while.
        BridgeRounds z = Fixtures.bridges(1);
        z.addComponent(0, 0, 6, 0);
        z.addComponent(0, 0, 7, 60);
        z.addComponent(0, 0, 8, 20);
        z.rest(0, 0, 1);
        z.rest(0, 0, 2);
        z.rest(0, 1, NONE);
        z.rest(0, 2, NONE);
        CHECK.due("when the second support goes", z.weakensIn(0), 15);
    }
}
