/** The sentences of the description about rounds, and about repairs and bids. */
final class RoundDescription {
    private static final int NONE = BridgeRounds.NONE;
    private static final int BAD_INDEX = BridgeRounds.BAD_INDEX;
    private static final int BAD_VALUE = BridgeRounds.BAD_VALUE;
    private static final int FULL = BridgeRounds.FULL;

    private RoundDescription() {
    }

    static void tests(Sentences all) {
        crew(all);
        nearest(all);
        drives(all);
        ends(all);
        lines(all);
        givings(all);
        severalGivings(all);
        carriedOut(all);
    }

    /** Asks for all bridges of a round of 200 hours. */
    private static void round(Check c, String what, BridgeRounds x, int start, int... bridges) {
        for (int index = 0; index < bridges.length; index++) {
            c.due(what + ", place " + index, x.ofRound(start, 200, index), bridges[index]);
        }
        c.due(what + ", the end", x.ofRound(start, 200, bridges.length), NONE);
        c.due(what + ", how many", x.round(start, 200), bridges.length);
    }

    private static void crew(Sentences all) {
        all.description(16, "A crew, a vehicle of 12 tons, starts at a town with a number of hours.", c -> {
            for (int rating = 0; rating <= 9; rating++) {
                BridgeRounds x = Fixtures.towns(3);
                x.addRoad(0, 1, 10);
                x.addRoad(1, 2, 10);
                x.addBridge(1);
                x.pass(1);
                Fixtures.bridgeOf(x, 0, rating);
                c.due("over a bridge that is told " + rating, x.ofRound(0, 5, 0), rating >= 4 ? 0 : NONE);
                c.due("an hour too few", x.ofRound(0, 4, 0), NONE);
                c.due("from behind it", x.ofRound(1, 4, 0), 0);
            }
        });
        all.description(16, "It goes each time to the due bridge,", c -> {
            round(c, "in the year of building", Fixtures.bridges(6), 0);
            BridgeRounds x = Fixtures.twoDue();
            x.inspect(0);
            round(c, "one of two is due", x, 1, 1);
            BridgeRounds y = Fixtures.towns(2);
            y.addRoad(0, 1, 10);
            Fixtures.bridgeOf(y, 0, 5);
            y.pass(1);
            round(c, "a year before it is due", y, 0);
            y.pass(1);
            round(c, "in the year in which it is due", y, 0, 0);
        });
        all.description(16, "closed or not,", c -> {
            BridgeRounds x = Fixtures.twoDue();
            x.close(0, true);
            x.close(1, true);
            round(c, "two closed ones", x, 1, 0, 1);
            c.due("it stays closed", x.bridge(0, 7), 1);
        });
        all.description(16, "not looked at yet in this round,", c -> {
            BridgeRounds x = Fixtures.later(Fixtures.bridges(1), 1);
            round(c, "one, though 196 hours are left", x, 0, 0);
            c.due("it was inspected once", x.count(6), 1);
            BridgeRounds y = Fixtures.later(Fixtures.bridges(6), 30);
            round(c, "each of six once", y, 0, 0, 3, 4, 2, 1, 5);
            c.due("six inspections", y.count(6), 6);
        });
    }

    private static void nearest(Sentences all) {
        all.description(16, "whose road has a town that it reaches by the shortest way,", c -> {
            BridgeRounds x = Fixtures.towns(6);
            x.addRoad(0, 1, 21);
            x.addRoad(0, 2, 20);
            x.addRoad(2, 3, 20);
            x.addRoad(1, 4, 5);
            x.addRoad(2, 5, 5);
            x.addRoad(3, 5, 5);
            x.addBridge(3);
            x.addBridge(4);
            x.addBridge(5);
            x.pass(1);
            round(c, "20, and 20 from there, and 61", x, 0, 1, 2, 0);
        });
        all.description(16, "of both towns the nearer one", c -> {
            for (int told = 0; told < 2; told++) {
                BridgeRounds x = Fixtures.towns(4);
                x.addRoad(0, 1, 20);
                x.addRoad(0, 2, 10);
                x.addRoad(1 + told, 2 - told, 5);
                x.addRoad(2, 3, 30);
                x.addBridge(2);
                x.addBridge(3);
                x.pass(1);
                c.due("5 hours for the higher town", x.ofRound(0, 5, 0), 0);
                c.due("4 hours are too few", x.ofRound(0, 4, 0), NONE);
                c.due("it is at the town 2 then", x.ofRound(0, 9, 1), 1);
            }
        });
        all.description(16, "(the one with the lower number, if both are as near;", c -> {
            for (int told = 0; told < 2; told++) {
                BridgeRounds x = Fixtures.towns(5);
                x.addRoad(0, 1, 10);
                x.addRoad(0, 2, 10);
                x.addRoad(1 + told, 2 - told, 50);
                x.addRoad(1, 3, 10);
                x.addRoad(2, 4, 11);
                x.addRoad(3, 4, 70);
                x.addBridge(2);
                x.addBridge(5);
                x.pass(1);
                c.due("1 + 4 + 1 + 3 hours", x.ofRound(0, 9, 1), NONE);
                c.due("1 + 4 + 1 + 4 hours", x.ofRound(0, 10, 1), 1);
            }
        });
        all.description(16, "of several bridges the one with the lowest number),", c -> {
            BridgeRounds x = Fixtures.towns(5);
            x.addRoad(0, 1, 10);
            x.addRoad(0, 2, 10);
            x.addRoad(1, 3, 5);
            x.addRoad(2, 4, 5);
            x.addBridge(3);
            x.addBridge(2);
            x.pass(1);
            round(c, "by the higher town and road", x, 0, 0, 1);
            BridgeRounds y = Fixtures.later(Fixtures.towns(2), 1);
            for (int bridge = 0; bridge < 6; bridge++) {
                y.addRoad(0, 1, 99 - bridge);
                y.addBridge(bridge);
            }
            y.pass(1);
            round(c, "six as near", y, 0, 0, 1, 2, 3, 4, 5);
        });
    }

    /** A due bridge that begins at the end of a way of one road, or of two. */
    private static BridgeRounds behind(int first, int second) {
        BridgeRounds x = Fixtures.towns(4);
        x.addRoad(0, 1, first);
        x.addRoad(1, 2, second);
        x.addRoad(2, 3, 1);
        x.addBridge(2);
        x.pass(1);
        return x;
    }

    private static void drives(Sentences all) {
        all.description(16, "drives there, an hour for each 10 of the length of the whole way, rounded up,", c -> {
            int[][] ways = {{1, 1, 1}, {1, 8, 1}, {1, 9, 1}, {5, 6, 2}, {9, 10, 2}, {10, 10, 2}, {11, 10, 3},
                {12, 13, 3}, {95, 95, 19}, {99, 99, 20}};
            for (int[] way : ways) {
                int needed = way[2] + 4;
                BridgeRounds x = behind(way[0], way[1]);
                c.due("a way of " + (way[0] + way[1]) + ", an hour too few", x.ofRound(0, needed - 1, 0), NONE);
                c.due("a way of " + (way[0] + way[1]), x.ofRound(0, needed, 0), 0);
                c.due("it goes", x.round(0, needed), 1);
            }
            c.due("no way at all takes no hour", behind(5, 5).ofRound(2, 4, 0), 0);
        });
        all.description(16, "and inspects it in 4 hours;", c -> {
            BridgeRounds x = Fixtures.later(Fixtures.frame(), 1);
            c.due("3 hours", x.ofRound(0, 3, 0), NONE);
            c.due("no bridge in 3 hours", x.round(0, 3), 0);
            c.due("4 hours", x.round(0, 4), 1);
            c.due("told", x.bridge(0, 3), 7);
            c.due("its year", x.bridge(0, 4), 1);
            c.due("inspections", x.count(6), 1);
            c.due("spent", x.count(7), 9);
        });
        all.description(16, "it goes on from this town.", c -> {
            c.due("4, and 3 + 4 from the town 1", Fixtures.twoDue().ofRound(1, 11, 1), 1);
            // It has come to the town 1 by 10, and from there the next one is 10 away, from the start 20.
            BridgeRounds x = Fixtures.towns(5);
            x.addRoad(0, 1, 10);
            x.addRoad(1, 2, 10);
            x.addRoad(1, 3, 50);
            x.addRoad(2, 4, 50);
            x.addBridge(2);
            x.addBridge(3);
            x.pass(1);
            c.due("1 + 4 + 1 + 4 hours", x.ofRound(0, 10, 1), 1);
            c.due("an hour less", x.ofRound(0, 9, 1), NONE);
            // It does not cross the bridge: the other town of its road is no nearer for that.
            BridgeRounds y = Fixtures.towns(3);
            y.addRoad(0, 1, 10);
            y.addRoad(1, 2, 10);
            y.addBridge(0);
            y.addBridge(1);
            y.pass(1);
            round(c, "the next one begins at the other end", y, 0, 0);
        });
    }

    private static void ends(Sentences all) {
        all.description(16, "The round ends when no due bridge can be reached,", c -> {
            round(c, "no bridges", Fixtures.towns(1), 0);
            BridgeRounds x = Fixtures.twoDue();
            round(c, "the other one is behind the first", x, 0, 0);
            c.due("it is due still", x.bridge(1, 6), 1);
            BridgeRounds y = Fixtures.later(Fixtures.bridges(1), 1);
            y.addTowns(1);
            round(c, "from a town without roads", y, 4);
            c.due("it is due still", y.bridge(0, 6), 1);
        });
        all.description(16, "or the hours that are left are not enough for driving to the next one and inspecting it.", c -> {
            int[] hours = {1, 3, 4, 7, 8, 10, 11, 200};
            int[] many = {0, 0, 1, 1, 1, 1, 2, 2};
            for (int i = 0; i < hours.length; i++) {
                BridgeRounds x = Fixtures.twoDue();
                c.due("round(1, " + hours[i] + ")", x.round(1, hours[i]), many[i]);
                c.due("inspections", x.count(6), many[i]);
                c.due("the second one is due", x.bridge(1, 6), many[i] == 2 ? 0 : 1);
            }
        });
        all.description(16, "(Told ratings change while it goes on, and so do posts.)", c -> {
            BridgeRounds better = Fixtures.towns(3);
            better.addRoad(0, 1, 10);
            better.addRoad(1, 2, 10);
            better.addBridge(0);
            better.addComponent(0, 0, 4, 0);
            better.rest(0, 0, NONE);
            better.addBridge(1);
            better.pass(1);
            c.due("no way for the crew before", better.way(0, 1, 12), NONE);
            round(c, "the first one is told 4, and opens the way", better, 0, 0, 1);
            BridgeRounds worse = Fixtures.towns(3);
            worse.addRoad(0, 1, 10);
            worse.addRoad(1, 2, 10);
            Fixtures.bridgeOf(worse, 0, 4);
            worse.addBridge(1);
            worse.setRating(0, 0, 3);
            worse.pass(1);
            c.due("a way for the crew before", worse.way(0, 1, 12), 10);
            round(c, "the first one is told 3, and cuts the way", worse, 0, 0);
        });
    }

    private static void lines(Sentences all) {
        all.description(24, "There are at most 8 lines of repairs:", c -> {
            BridgeRounds x = Fixtures.lines(7);
            c.due("the eighth one", x.addLine(0, 0, 1), 7);
            c.due("a ninth one", x.addLine(0, 0, 1), FULL);
            c.due("how many", x.count(3), 8);
        });
        all.description(24, "a line is for a component of a bridge, by a number of points, 1 to 9.", c -> {
            BridgeRounds x = Fixtures.frame();
            c.due("no such component", x.addLine(0, 4, 1), BAD_INDEX);
            c.due("no such bridge", x.addLine(1, 0, 1), BAD_INDEX);
            c.due("0 points", x.addLine(0, 3, 0), BAD_VALUE);
            c.due("10 points", x.addLine(0, 3, 10), BAD_VALUE);
            c.due("1 point", x.addLine(0, 3, 1), 0);
            c.due("9 points", x.addLine(0, 2, 9), 1);
        });
        all.description(23, "There are at most 3 bidders, numbered from 0,", c -> {
            BridgeRounds x = new BridgeRounds();
            for (int bidder = 0; bidder < 3; bidder++) {
                c.due("addBidder()", x.addBidder(10 + bidder, 1, 1, 1, 1), bidder);
            }
            c.due("one more", x.addBidder(10, 1, 1, 1, 1), FULL);
            for (int bidder = 0; bidder < 3; bidder++) {
                c.due("the fee of the bidder " + bidder, x.bidder(bidder, 0), 10 + bidder);
            }
        });
        all.description(23, "each with a fee, 0 to 999,", c -> {
            BridgeRounds x = new BridgeRounds();
            c.due("-1", x.addBidder(-1, 1, 1, 1, 1), BAD_VALUE);
            c.due("1000", x.addBidder(1000, 1, 1, 1, 1), BAD_VALUE);
            c.due("0", x.addBidder(0, 1, 1, 1, 1), 0);
            c.due("999", x.addBidder(999, 1, 1, 1, 1), 1);
        });
        all.description(23, "and a price of a point for each kind, 1 to 99.", c -> {
            BridgeRounds x = new BridgeRounds();
            c.due("0", x.addBidder(0, 0, 0, 0, 0), BAD_VALUE);
            c.due("100", x.addBidder(0, 100, 100, 100, 100), BAD_VALUE);
            c.due("1", x.addBidder(0, 1, 1, 1, 1), 0);
            c.due("99", x.addBidder(0, 99, 99, 99, 99), 1);
        });
    }

    /** The frame with a line of one point for each of the given components, which have their number as kind. */
    private static BridgeRounds linesFor(int... components) {
        BridgeRounds x = Fixtures.frame();
        for (int component : components) {
            x.addLine(0, component, 1);
        }
        return x;
    }

    private static void given(Check c, String what, BridgeRounds x, int cost, int... bidders) {
        c.due(what + ": the cost", x.award(), cost);
        for (int line = 0; line < bidders.length; line++) {
            c.due(what + ": the line " + line, x.line(line, 3), bidders[line]);
        }
    }

    private static void givings(Sentences all) {
        all.description(28, "The lines can be given to bidders each by itself:", c -> {
            BridgeRounds x = linesFor(0, 1, 2, 1, 0);
            x.addBidder(0, 1, 9, 9, 9);
            x.addBidder(0, 9, 1, 9, 9);
            x.addBidder(0, 9, 9, 1, 9);
            given(c, "three bidders", x, 5, 0, 1, 2, 1, 0);
        });
        all.description(28, "the cost is the sum of points * price of all lines, each by the bidder that it is given to,", c -> {
            BridgeRounds x = Fixtures.frame();
            x.addLine(0, 0, 9);
            x.addLine(0, 3, 2);
            x.addLine(0, 3, 5);
            x.addBidder(0, 11, 50, 50, 50);
            x.addBidder(0, 50, 50, 50, 7);
            given(c, "9 * 11 + 2 * 7 + 5 * 7", x, 148, 0, 1, 1);
        });
        all.description(28, "plus the fees of all bidders that are given a line.", c -> {
            BridgeRounds x = linesFor(0, 1, 0, 1);
            x.addBidder(20, 1, 99, 1, 1);
            x.addBidder(30, 99, 2, 1, 1);
            x.addBidder(999, 99, 99, 1, 1);
            given(c, "once for each, and none for the third", x, 50 + 2 + 4, 0, 1, 0, 1);
            c.due("what the first one is paid", x.bidder(0, 5), 22);
            c.due("what the second one is paid", x.bidder(1, 5), 34);
            c.due("what the third one is paid", x.bidder(2, 5), 0);
        });
        all.description(28, "The award is the giving with the least cost;", c -> {
            BridgeRounds x = linesFor(0, 1);
            x.addBidder(10, 20, 30, 1, 1);
            x.addBidder(10, 20, 19, 1, 1);
            x.addBidder(0, 25, 23, 1, 1);
            given(c, "one alone, though dearer for each", x, 48, 2, 2);
            x.addLine(0, 1, 1);
            given(c, "with one more line", x, 10 + 20 + 19 + 19, 1, 1, 1);
            x.addLine(0, 0, 9);
            given(c, "with nine more points", x, 10 + 200 + 38, 1, 1, 1, 1);
            BridgeRounds last = linesFor(0);
            last.addBidder(0, 3, 1, 1, 1);
            last.addBidder(0, 2, 1, 1, 1);
            last.addBidder(0, 1, 1, 1, 1);
            given(c, "the last one", last, 1, 2);
        });
    }

    private static void severalGivings(Sentences all) {
        String sentence = "of several the one in which the sequence of bidders, by lines, is lexicographically first.";
        all.description(28, sentence, c -> {
            BridgeRounds alike = linesFor(0, 1);
            alike.addBidder(0, 3, 3, 3, 3);
            alike.addBidder(0, 3, 3, 3, 3);
            given(c, "two alike", alike, 6, 0, 0);
            BridgeRounds fees = linesFor(0, 1);
            fees.addBidder(7, 3, 3, 3, 3);
            fees.addBidder(7, 3, 3, 3, 3);
            given(c, "two alike with fees", fees, 13, 0, 0);
            // 0 and 1 cost 4 + 1 + 5, 1 alone 5 + 5, 2 alone 8 + 1 + 1.
            BridgeRounds sets = linesFor(0, 1);
            sets.addBidder(4, 1, 9, 9, 9);
            sets.addBidder(0, 5, 5, 5, 5);
            sets.addBidder(8, 1, 1, 1, 1);
            given(c, "the first line decides", sets, 10, 0, 1);
            BridgeRounds turned = linesFor(1, 0);
            turned.addBidder(4, 1, 9, 9, 9);
            turned.addBidder(0, 5, 5, 5, 5);
            turned.addBidder(8, 1, 1, 1, 1);
            given(c, "the second line decides", turned, 10, 1, 0);
            BridgeRounds late = linesFor(1, 1, 0);
            late.addBidder(2, 5, 5, 5, 5);
            late.addBidder(3, 4, 5, 5, 5);
            given(c, "each one alone as cheap", late, 17, 0, 0, 0);
            BridgeRounds eight = linesFor(0, 0, 0, 0, 0, 0, 0, 1);
            eight.addBidder(0, 2, 9, 1, 1);
            eight.addBidder(0, 2, 3, 1, 1);
            eight.addBidder(0, 2, 3, 1, 1);
            given(c, "the last of eight lines", eight, 17, 0, 0, 0, 0, 0, 0, 0, 1);
        });
    }

    private static void carriedOut(Sentences all) {
        all.description(30, "When the award is carried out, the rating of each component increases by the points of its lines,", c -> {
            BridgeRounds x = Fixtures.bridges(1);
            x.addComponent(0, 0, 0, 0);
            x.addComponent(0, 1, 3, 0);
            x.addComponent(0, 2, 4, 0);
            x.addBidder(0, 1, 1, 1, 1);
            x.addLine(0, 1, 2);
            x.addLine(0, 0, 1);
            x.addLine(0, 1, 3);
            x.repair();
            c.due("one line", x.component(0, 0, 1), 1);
            c.due("two lines", x.component(0, 1, 1), 8);
            c.due("no line", x.component(0, 2, 1), 4);
        });
        all.description(30, "but not above 9,", c -> {
            int[][] cases = {{8, 1, 9}, {9, 1, 9}, {8, 2, 9}, {0, 9, 9}, {9, 9, 9}, {0, 8, 8}};
            for (int[] one : cases) {
                BridgeRounds x = Fixtures.deck(one[0], 0);
                x.addBidder(0, 1, 1, 1, 1);
                x.addLine(0, 0, one[1]);
                x.repair();
                c.due(one[0] + " and " + one[1], x.component(0, 0, 1), one[2]);
            }
            BridgeRounds x = Fixtures.deck(5, 0);
            x.addBidder(0, 1, 1, 1, 1);
            x.addLine(0, 0, 3);
            x.addLine(0, 0, 3);
            x.repair();
            c.due("by two lines", x.component(0, 0, 1), 9);
        });
        all.description(30, "and its wear becomes 0;", c -> {
            BridgeRounds x = Fixtures.later(Fixtures.frame(), 3);
            x.addBidder(0, 1, 1, 1, 1);
            x.addLine(0, 1, 1);
            x.repair();
            c.due("with a line", x.component(0, 1, 2), 0);
            BridgeRounds y = Fixtures.later(Fixtures.deck(9, 30), 3);
            y.addBidder(0, 1, 1, 1, 1);
            y.addLine(0, 0, 1);
            y.repair();
            c.due("also of one with the rating 9", y.component(0, 0, 2), 0);
        });
        all.description(30, "then there are no lines any more.", c -> {
            BridgeRounds x = Fixtures.lines(8);
            x.repair();
            c.due("lines", x.count(3), 0);
            c.due("the line 0", x.line(0, 0), BAD_INDEX);
            c.due("the award", x.award(), 0);
            c.due("the next line", x.addLine(0, 0, 1), 0);
        });
        all.description(30, "(Told ratings stay.)", c -> {
            BridgeRounds x = Fixtures.frame();
            x.inspect(0);
            x.addBidder(0, 1, 1, 1, 1);
            x.addLine(0, 1, 2);
            x.pass(1);
            x.repair();
            c.due("true", x.bridge(0, 2), 9);
            c.due("told", x.bridge(0, 3), 7);
            c.due("its year", x.bridge(0, 4), 0);
            c.due("its post", x.bridge(0, 8), 40);
        });
        all.description(9, "Money that was spent for inspections and for repairs is added up.", c -> {
            BridgeRounds x = Fixtures.frame();
            x.addBidder(10, 1, 2, 3, 4);
            for (int time = 1; time <= 3; time++) {
                x.inspect(0);
                x.addLine(0, 1, 5);
                x.repair();
                c.due("for inspections", x.count(7), 9 * time);
                c.due("for repairs", x.count(8), 20 * time);
            }
        });
    }
}
