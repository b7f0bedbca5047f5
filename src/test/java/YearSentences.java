/** The sentences of promises 14 to 18: years, inspections and rounds. */
final class YearSentences {
    private static final int NONE = BridgeRounds.NONE;
    private static final int BAD_INDEX = BridgeRounds.BAD_INDEX;
    private static final int BAD_VALUE = BridgeRounds.BAD_VALUE;
    private static final int FULL = BridgeRounds.FULL;

    private YearSentences() {
    }

    static void tests(Sentences all) {
        pass(all);
        inspect(all);
        round(all);
        ofRound(all);
        ofRoundRefused(all);
        weakensIn(all);
    }

    private static BridgeRounds inYear(int year) {
        return Fixtures.later(Fixtures.frame(), year);
    }

    private static void pass(Sentences all) {
        all.promise(14, "Lets years pass.", c -> {
            BridgeRounds x = Fixtures.frame();
            x.pass(2);
            c.due("the year", x.count(5), 2);
            c.due("a wear", x.component(0, 1, 2), 60);
            c.due("another wear", x.component(0, 3, 2), 20);
            c.due("another rating", x.component(0, 3, 1), 7);
        });
        all.promise(14, "Recorded, as one call.", c -> {
            c.recorded("pass(50)", Fixtures::frame, x -> x.pass(50), 50);
            BridgeRounds x = inYear(3);
            x.pass(9);
            x.undo();
            c.due("the year behind undo()", x.count(5), 3);
        });
        all.promise(14, "`years`: 1 to 50", c -> {
            c.recorded("1", () -> inYear(0), x -> x.pass(1), 1);
            c.recorded("50", () -> inYear(0), x -> x.pass(50), 50);
        });
        all.promise(14, "Returns the year then;", c -> {
            BridgeRounds x = new BridgeRounds();
            c.due("pass(7)", x.pass(7), 7);
            c.due("pass(50)", x.pass(50), 57);
            c.due("pass(1)", x.pass(1), 58);
        });
        all.promise(14, "BAD_VALUE if years is out of range;", c -> {
            for (int years : Fixtures.outside(1, 50)) {
                c.still("pass(" + years + ")", Fixtures::frame, x -> x.pass(years), BAD_VALUE);
            }
        });
        all.promise(14, "FULL if it would be above 1000.", c -> {
            c.recorded("to 1000", () -> inYear(950), x -> x.pass(50), 1000);
            c.still("to 1001", () -> inYear(951), x -> x.pass(50), FULL);
            c.recorded("999 and 1", () -> inYear(999), x -> x.pass(1), 1000);
            c.still("999 and 2", () -> inYear(999), x -> x.pass(2), FULL);
            c.still("1000 and 1", () -> inYear(1000), x -> x.pass(1), FULL);
        });
    }

    private static void inspect(Sentences all) {
        all.promise(15, "Inspects a bridge.", c -> {
            BridgeRounds x = inYear(2);
            x.inspect(0);
            c.due("told", x.bridge(0, 3), 7);
            c.due("its year", x.bridge(0, 4), 2);
            c.due("inspections", x.count(6), 1);
            c.due("spent", x.count(7), 9);
        });
        all.promise(15, "Recorded.", c -> {
            c.recorded("inspect(0)", Fixtures::frame, x -> x.inspect(0), 7);
            c.recorded("inspect(0) without components", () -> Fixtures.bridges(1), x -> x.inspect(0), 0);
        });
        all.promise(15, "`bridge`: its number", c -> {
            c.recorded("the first one", () -> Fixtures.bridges(6), x -> x.inspect(0), 0);
            BridgeRounds x = Fixtures.later(Fixtures.bridges(6), 1);
            x.inspect(5);
            c.due("the last one", x.bridge(5, 4), 1);
            c.due("not the first one", x.bridge(0, 4), 0);
        });
        all.promise(15, "Returns its told rating then;", c -> {
            BridgeRounds x = Fixtures.deck(9, 50);
            c.due("9", x.inspect(0), 9);
            x.pass(2);
            c.due("8", x.inspect(0), 8);
            x.pass(50);
            c.due("0", x.inspect(0), 0);
        });
        all.promise(15, "BAD_INDEX if there is no such bridge.", c -> {
            for (int bridge : Fixtures.outside(0, 0)) {
                c.still("inspect(" + bridge + ")", Fixtures::frame, x -> x.inspect(bridge), BAD_INDEX);
            }
            c.still("no bridges", BridgeRounds::new, x -> x.inspect(0), BAD_INDEX);
        });
    }

    private static void round(Sentences all) {
        all.promise(16, "Lets a crew go a round.", c -> {
            BridgeRounds x = Fixtures.twoDue();
            x.round(1, 200);
            c.due("the year of the first", x.bridge(0, 4), 1);
            c.due("the year of the second", x.bridge(1, 4), 1);
            c.due("inspections", x.count(6), 2);
            c.due("spent", x.count(7), 10);
            c.due("due", x.count(9), 0);
        });
        all.promise(16, "Recorded.", c -> {
            c.recorded("round(1, 200)", Fixtures::twoDue, x -> x.round(1, 200), 2);
            c.recorded("a round to nothing", Fixtures::twoDue, x -> x.round(1, 3), 0);
        });
        all.promise(16, "`start`: a town", c -> {
            c.recorded("the first town", Fixtures::twoDue, x -> x.round(0, 200), 1);
            c.recorded("the last town", Fixtures::twoDue, x -> x.round(3, 200), 1);
        });
        all.promise(16, "`hours`: 1 to 200", c -> {
            c.recorded("1", Fixtures::twoDue, x -> x.round(1, 1), 0);
            c.recorded("200", Fixtures::twoDue, x -> x.round(1, 200), 2);
        });
        all.promise(16, "Returns how many bridges are inspected;", c -> {
            c.recorded("none", () -> Fixtures.bridges(6), x -> x.round(0, 200), 0);
            c.recorded("one", Fixtures::twoDue, x -> x.round(1, 10), 1);
            c.recorded("all six", () -> Fixtures.later(Fixtures.bridges(6), 1), x -> x.round(0, 200), 6);
        });
        all.promise(16, "BAD_INDEX if there is no such town;", c -> {
            for (int town : Fixtures.outside(0, 3)) {
                c.still("round(" + town + ", 5)", Fixtures::twoDue, x -> x.round(town, 5), BAD_INDEX);
            }
        });
        all.promise(16, "BAD_VALUE if hours is out of range.", c -> {
            for (int hours : Fixtures.outside(1, 200)) {
                c.still("round(1, " + hours + ")", Fixtures::twoDue, x -> x.round(1, hours), BAD_VALUE);
            }
        });
    }

    private static void ofRound(Sentences all) {
        all.promise(17, "Returns a bridge of the round that a crew would go.", c -> {
            BridgeRounds x = Fixtures.later(Fixtures.bridges(6), 1);
            // The bridges 0, 3 and 4 begin at the town 0; the town 3 is 18 away, and from there the town 2 is 17.
            int[] places = {0, 3, 4, 2, 1, 5};
            for (int index = 0; index < 6; index++) {
                c.due("ofRound(0, 200, " + index + ")", x.ofRound(0, 200, index), places[index]);
            }
        });
        all.promise(17, "Nothing is changed.", c -> {
            c.still("ofRound(1, 200, 0)", Fixtures::twoDue, x -> x.ofRound(1, 200, 0), 0);
            c.still("ofRound(1, 200, 1)", Fixtures::twoDue, x -> x.ofRound(1, 200, 1), 1);
            c.still("ofRound(1, 200, 2)", Fixtures::twoDue, x -> x.ofRound(1, 200, 2), NONE);
        });
        all.promise(17, "`start`: a town", c -> {
            c.still("the first town", Fixtures::twoDue, x -> x.ofRound(0, 200, 0), 0);
            c.still("the last town", Fixtures::twoDue, x -> x.ofRound(3, 200, 0), 1);
        });
        all.promise(17, "`hours`: 1 to 200", c -> {
            c.still("1", Fixtures::twoDue, x -> x.ofRound(1, 1, 0), NONE);
            c.still("200", Fixtures::twoDue, x -> x.ofRound(1, 200, 1), 1);
        });
        all.promise(17, "`index`: its place in the round, from 0", c -> {
            c.still("0", Fixtures::twoDue, x -> x.ofRound(2, 200, 0), 1);
            c.still("1", Fixtures::twoDue, x -> x.ofRound(2, 200, 1), 0);
            c.still("the last of six", () -> Fixtures.later(Fixtures.bridges(6), 1), x -> x.ofRound(0, 200, 5), 5);
        });
        all.promise(17, "Returns the bridge;", c ->
            c.still("ofRound(3, 4, 0)", Fixtures::twoDue, x -> x.ofRound(3, 4, 0), 1));
    }

    private static void ofRoundRefused(Sentences all) {
        all.promise(17, "NONE if there are not so many;", c -> {
            c.still("the place behind the last one", Fixtures::twoDue, x -> x.ofRound(1, 200, 2), NONE);
            c.still("the second one, an hour too few", Fixtures::twoDue, x -> x.ofRound(1, 10, 1), NONE);
            c.still("the greatest place", Fixtures::twoDue, x -> x.ofRound(1, 200, Integer.MAX_VALUE), NONE);
            c.still("the place 6 of six", () -> Fixtures.later(Fixtures.bridges(6), 1), x -> x.ofRound(0, 200, 6), NONE);
            c.still("no bridges", () -> Fixtures.towns(1), x -> x.ofRound(0, 200, 0), NONE);
        });
        all.promise(17, "BAD_INDEX if there is no such town;", c -> {
            for (int town : Fixtures.outside(0, 3)) {
                c.still("ofRound(" + town + ", 5, 0)", Fixtures::twoDue, x -> x.ofRound(town, 5, 0), BAD_INDEX);
            }
        });
        all.promise(17, "BAD_VALUE if hours is out of range, or index is negative.", c -> {
            for (int hours : Fixtures.outside(1, 200)) {
                c.still("hours " + hours, Fixtures::twoDue, x -> x.ofRound(1, hours, 0), BAD_VALUE);
            }
            c.still("index -1", Fixtures::twoDue, x -> x.ofRound(1, 200, -1), BAD_VALUE);
            c.still("the least index", Fixtures::twoDue, x -> x.ofRound(1, 200, Integer.MIN_VALUE), BAD_VALUE);
        });
    }

    private static void weakensIn(Sentences all) {
        all.promise(18, "Foretells in how many years the true rating of a bridge will be less than now,", c -> {
            c.still("rate 30", () -> Fixtures.deck(5, 30), x -> x.weakensIn(0), 4);
            BridgeRounds x = Fixtures.deck(5, 30);
            for (int years = 4; years >= 1; years--) {
                c.due("years to go", x.weakensIn(0), years);
                c.due("rating still", x.bridge(0, 2), 5);
                x.pass(1);
            }
            c.due("rating then", x.bridge(0, 2), 4);
            c.due("years to the next loss", x.weakensIn(0), 3);
        });
        all.promise(18, "if nothing is done.", c -> {
            BridgeRounds x = Fixtures.deck(5, 30);
            x.addBidder(0, 1, 1, 1, 1);
            x.addLine(0, 0, 3);
            c.due("lines play no part", x.weakensIn(0), 4);
        });
        all.promise(18, "`bridge`: its number", c -> {
            BridgeRounds x = Fixtures.bridges(6);
            x.addComponent(5, 0, 5, 50);
            x.rest(5, 0, NONE);
            c.due("the last one", x.weakensIn(5), 2);
            c.due("the first one", x.weakensIn(0), NONE);
        });
        all.promise(18, "Returns the years, 1 to 1000;", c -> {
            BridgeRounds least = Fixtures.later(Fixtures.deck(5, 1), 99);
            c.due("1", least.weakensIn(0), 1);
            // No more than 900 years can come: a rating of 9 is 0 then, at a rate of 1.
            for (int year = 0; year < 900; year++) {
                BridgeRounds x = Fixtures.bridges(1);
                x.addComponent(0, 0, 9, 1);
                x.addComponent(0, 0, 1, 0);
                x.rest(0, 0, 1);
                x.rest(0, 1, NONE);
                Fixtures.later(x, year);
                c.due("900 in the year 0, in the year " + year, x.weakensIn(0), 900 - year);
            }
            BridgeRounds last = Fixtures.later(Fixtures.deck(9, 1), 1000);
            last.setRating(0, 0, 9);
            c.due("beyond the last year", last.weakensIn(0), 100);
        });
        all.promise(18, "NONE if that is not so within 1000 years;", c -> {
            c.still("rate 0", () -> Fixtures.deck(9, 0), x -> x.weakensIn(0), NONE);
            c.still("rating 0", () -> Fixtures.deck(0, 60), x -> x.weakensIn(0), NONE);
            c.still("without components", () -> Fixtures.bridges(1), x -> x.weakensIn(0), NONE);
        });
        all.promise(18, "BAD_INDEX if there is no such bridge.", c -> {
            for (int bridge : Fixtures.outside(0, 0)) {
                c.still("weakensIn(" + bridge + ")", Fixtures::frame, x -> x.weakensIn(bridge), BAD_INDEX);
            }
        });
    }
}
