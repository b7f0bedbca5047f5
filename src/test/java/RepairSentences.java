/** The sentences of promises 23 to 30: lines of repairs, bidders and the award. */
final class RepairSentences {
    private static final int NONE = BridgeRounds.NONE;
    private static final int BAD_INDEX = BridgeRounds.BAD_INDEX;
    private static final int BAD_VALUE = BridgeRounds.BAD_VALUE;
    private static final int BAD_STATE = BridgeRounds.BAD_STATE;
    private static final int FULL = BridgeRounds.FULL;

    private RepairSentences() {
    }

    static void tests(Sentences all) {
        addBidder(all);
        prices(all);
        addLine(all);
        addLineRefused(all);
        clearLines(all);
        line(all);
        bidder(all);
        bidderByTheAward(all);
        award(all);
        ratingBehind(all);
        repair(all);
    }

    private static void addBidder(Sentences all) {
        all.promise(23, "Adds a bidder.", c -> {
            BridgeRounds x = new BridgeRounds();
            x.addBidder(5, 1, 2, 3, 4);
            c.due("how many", x.count(4), 1);
            c.due("its fee", x.bidder(0, 0), 5);
        });
        all.promise(23, "Recorded.", c ->
            c.recorded("addBidder(5, 1, 2, 3, 4)", Fixtures::noBidders, x -> x.addBidder(5, 1, 2, 3, 4), 0));
        all.promise(23, "`fee`: 0 to 999", c -> {
            for (int fee : new int[] {0, 1, 998, 999}) {
                BridgeRounds x = new BridgeRounds();
                c.due("addBidder(" + fee + ", ..)", x.addBidder(fee, 1, 1, 1, 1), 0);
                c.due("its fee", x.bidder(0, 0), fee);
            }
        });
        all.promise(23, "Returns its number;", c -> {
            BridgeRounds x = new BridgeRounds();
            c.due("the first one", x.addBidder(0, 1, 1, 1, 1), 0);
            c.due("one like it", x.addBidder(0, 1, 1, 1, 1), 1);
            c.due("another one", x.addBidder(1, 1, 1, 1, 1), 2);
        });
        all.promise(23, "BAD_VALUE if an argument is out of range;", c -> {
            for (int fee : Fixtures.outside(0, 999)) {
                c.still("fee " + fee, Fixtures::frame, x -> x.addBidder(fee, 1, 1, 1, 1), BAD_VALUE);
            }
            for (int price : Fixtures.outside(1, 99)) {
                c.still("price0 " + price, Fixtures::frame, x -> x.addBidder(0, price, 1, 1, 1), BAD_VALUE);
                c.still("price1 " + price, Fixtures::frame, x -> x.addBidder(0, 1, price, 1, 1), BAD_VALUE);
                c.still("price2 " + price, Fixtures::frame, x -> x.addBidder(0, 1, 1, price, 1), BAD_VALUE);
                c.still("price3 " + price, Fixtures::frame, x -> x.addBidder(0, 1, 1, 1, price), BAD_VALUE);
            }
        });
        all.promise(23, "FULL if there are 3 bidders.", c -> {
            BridgeRounds x = new BridgeRounds();
            x.addBidder(0, 1, 1, 1, 1);
            x.addBidder(0, 1, 1, 1, 1);
            c.due("the third one", x.addBidder(0, 1, 1, 1, 1), 2);
            c.due("a fourth one", x.addBidder(0, 1, 1, 1, 1), FULL);
            c.still("a fourth one", () -> Fixtures.lines(3), y -> y.addBidder(999, 99, 99, 99, 99), FULL);
        });
    }

    /** Asks for the price that the bidder takes for one point of each kind. */
    private static void pricesAre(Check c, BridgeRounds x, int... prices) {
        for (int kind = 0; kind < 4; kind++) {
            c.due("the price of the kind " + kind, x.bidder(0, 1 + kind), prices[kind]);
        }
    }

    private static BridgeRounds bidding(int price0, int price1, int price2, int price3) {
        BridgeRounds x = new BridgeRounds();
        x.addBidder(0, price0, price1, price2, price3);
        return x;
    }

    private static void prices(Sentences all) {
        all.promise(23, "`price0`: the price of a point of the kind 0, 1 to 99", c -> {
            pricesAre(c, bidding(1, 50, 50, 50), 1, 50, 50, 50);
            pricesAre(c, bidding(99, 50, 50, 50), 99, 50, 50, 50);
            BridgeRounds x = Fixtures.frame();
            x.addBidder(0, 7, 50, 50, 50);
            x.addLine(0, 0, 3);
            c.due("three points", x.award(), 21);
        });
        all.promise(23, "`price1`: that of the kind 1", c -> {
            pricesAre(c, bidding(50, 1, 50, 50), 50, 1, 50, 50);
            pricesAre(c, bidding(50, 99, 50, 50), 50, 99, 50, 50);
        });
        all.promise(23, "`price2`: that of the kind 2", c -> {
            pricesAre(c, bidding(50, 50, 1, 50), 50, 50, 1, 50);
            pricesAre(c, bidding(50, 50, 99, 50), 50, 50, 99, 50);
        });
        all.promise(23, "`price3`: that of the kind 3", c -> {
            pricesAre(c, bidding(50, 50, 50, 1), 50, 50, 50, 1);
            pricesAre(c, bidding(50, 50, 50, 99), 50, 50, 50, 99);
        });
    }

    private static void addLine(Sentences all) {
        all.promise(24, "Adds a line.", c -> {
            BridgeRounds x = Fixtures.frame();
            x.addLine(0, 2, 4);
            c.due("how many", x.count(3), 1);
            c.due("nothing is carried out", x.component(0, 2, 1), 5);
        });
        all.promise(24, "Recorded.", c ->
            c.recorded("addLine(0, 2, 4)", () -> Fixtures.lines(2), x -> x.addLine(0, 2, 4), 2));
        all.promise(24, "`bridge`: its number", c -> {
            BridgeRounds x = Fixtures.bridges(6);
            x.addComponent(0, 0, 1, 0);
            x.addComponent(5, 0, 1, 0);
            c.due("the last one", x.addLine(5, 0, 1), 0);
            c.due("the first one", x.addLine(0, 0, 1), 1);
            c.due("part 0 of the first line", x.line(0, 0), 5);
            c.due("part 0 of the second line", x.line(1, 0), 0);
        });
        all.promise(24, "`component`: its number", c -> {
            BridgeRounds x = Fixtures.components(6);
            c.due("the last one", x.addLine(0, 5, 1), 0);
            c.due("the first one", x.addLine(0, 0, 1), 1);
            c.due("part 1 of the first line", x.line(0, 1), 5);
            c.due("part 1 of the second line", x.line(1, 1), 0);
        });
        all.promise(24, "`points`: 1 to 9", c -> {
            c.recorded("1", Fixtures::frame, x -> x.addLine(0, 0, 1), 0);
            c.recorded("9", Fixtures::frame, x -> x.addLine(0, 0, 9), 0);
            BridgeRounds x = Fixtures.frame();
            x.addLine(0, 0, 9);
            c.due("part 2", x.line(0, 2), 9);
        });
        all.promise(24, "Returns the number of the line;", c -> {
            BridgeRounds x = Fixtures.frame();
            for (int line = 0; line < 8; line++) {
                c.due("the same line again", x.addLine(0, 1, 1), line);
            }
        });
    }

    private static void addLineRefused(Sentences all) {
        all.promise(24, "BAD_INDEX if there is no such bridge or component;", c -> {
            for (int bridge : Fixtures.outside(0, 0)) {
                c.still("bridge " + bridge, Fixtures::frame, x -> x.addLine(bridge, 0, 1), BAD_INDEX);
            }
            for (int component : Fixtures.outside(0, 3)) {
                c.still("component " + component, Fixtures::frame, x -> x.addLine(0, component, 1), BAD_INDEX);
            }
            c.still("without components", () -> Fixtures.bridges(1), x -> x.addLine(0, 0, 1), BAD_INDEX);
        });
        all.promise(24, "BAD_VALUE if points is out of range;", c -> {
            for (int points : Fixtures.outside(1, 9)) {
                c.still("points " + points, Fixtures::frame, x -> x.addLine(0, 0, points), BAD_VALUE);
            }
        });
        all.promise(24, "FULL if there are 8 lines.", c -> {
            c.recorded("with 7", () -> Fixtures.lines(7), x -> x.addLine(0, 0, 1), 7);
            c.still("with 8", () -> Fixtures.lines(8), x -> x.addLine(0, 0, 1), FULL);
        });
    }

    private static void clearLines(Sentences all) {
        all.promise(25, "Removes all lines.", c -> {
            BridgeRounds x = Fixtures.lines(8);
            x.clearLines();
            c.due("how many", x.count(3), 0);
            c.due("the first one", x.line(0, 0), BAD_INDEX);
            c.due("the award", x.award(), 0);
            c.due("room again", x.addLine(0, 0, 1), 0);
        });
        all.promise(25, "Recorded.", c -> {
            c.recorded("8 lines", () -> Fixtures.lines(8), x -> x.clearLines(), 8);
            c.recorded("no lines", () -> Fixtures.lines(0), x -> x.clearLines(), 0);
        });
        all.promise(25, "Returns how many there were.", c -> {
            BridgeRounds x = Fixtures.lines(5);
            c.due("5", x.clearLines(), 5);
            c.due("none any more", x.clearLines(), 0);
            c.due("on a new object", new BridgeRounds().clearLines(), 0);
        });
    }

    private static void line(Sentences all) {
        all.promise(26, "Returns a part of a line.", c ->
            c.still("line(1, 1)", () -> Fixtures.lines(2), x -> x.line(1, 1), 1));
        all.promise(26, "`line`: its number", c -> {
            c.still("the first one", () -> Fixtures.lines(8), x -> x.line(0, 1), 0);
            c.still("the last one", () -> Fixtures.lines(8), x -> x.line(7, 1), 3);
        });
        all.promise(26, "`what`: 0 its bridge,", c -> {
            BridgeRounds x = Fixtures.components(1);
            x.addComponent(1, 0, 5, 5);
            x.addLine(1, 0, 3);
            c.due("line(0, 0)", x.line(0, 0), 1);
        });
        all.promise(26, "1 its component,", c ->
            c.still("line(2, 1)", () -> Fixtures.lines(3), x -> x.line(2, 1), 2));
        all.promise(26, "2 its points,", c -> {
            BridgeRounds x = Fixtures.frame();
            x.addLine(0, 3, 7);
            c.due("line(0, 2)", x.line(0, 2), 7);
        });
        all.promise(26, "3 the bidder to which the award gives it (NONE without bidders)", c -> {
            c.still("by the second one", () -> Fixtures.lines(4), x -> x.line(3, 3), 1);
            c.still("by the third one", () -> Fixtures.lines(8), x -> x.line(0, 3), 2);
            c.still("without bidders", Fixtures::noBidders, x -> x.line(0, 3), NONE);
        });
        all.promise(26, "Returns the part;", c ->
            c.still("line(3, 2)", () -> Fixtures.lines(4), x -> x.line(3, 2), 1));
        all.promise(26, "BAD_INDEX if there is no such line;", c -> {
            for (int line : Fixtures.outside(0, 2)) {
                c.still("line(" + line + ", 0)", () -> Fixtures.lines(3), x -> x.line(line, 0), BAD_INDEX);
                c.still("line(" + line + ", 3)", () -> Fixtures.lines(3), x -> x.line(line, 3), BAD_INDEX);
            }
            c.still("line(8, 0)", () -> Fixtures.lines(8), x -> x.line(8, 0), BAD_INDEX);
            c.still("no lines", () -> Fixtures.lines(0), x -> x.line(0, 0), BAD_INDEX);
        });
        all.promise(26, "BAD_VALUE if what is out of range.", c -> {
            for (int what : Fixtures.outside(0, 3)) {
                c.still("line(0, " + what + ")", () -> Fixtures.lines(3), x -> x.line(0, what), BAD_VALUE);
            }
        });
    }

    private static void bidder(Sentences all) {
        all.promise(27, "Returns a part of a bidder.", c ->
            c.still("bidder(0, 4)", () -> Fixtures.lines(0), x -> x.bidder(0, 4), 8));
        all.promise(27, "`bidder`: its number", c -> {
            c.still("the first one", () -> Fixtures.lines(0), x -> x.bidder(0, 0), 10);
            c.still("the last one", () -> Fixtures.lines(0), x -> x.bidder(2, 0), 30);
        });
        all.promise(27, "`what`: 0 the fee,", c ->
            c.still("bidder(1, 0)", () -> Fixtures.lines(3), x -> x.bidder(1, 0), 0));
        all.promise(27, "1 to 4 the prices of the kinds 0 to 3,", c -> {
            int[] prices = {2, 4, 6, 8};
            for (int kind = 0; kind <= 3; kind++) {
                int what = 1 + kind;
                c.still("bidder(0, " + what + ")", () -> Fixtures.lines(3), x -> x.bidder(0, what), prices[kind]);
                c.still("bidder(1, " + what + ")", () -> Fixtures.lines(3), x -> x.bidder(1, what), 5);
            }
        });
        all.promise(27, "Returns the part;", c ->
            c.still("bidder(2, 1)", () -> Fixtures.lines(0), x -> x.bidder(2, 1), 1));
        all.promise(27, "BAD_INDEX if there is no such bidder;", c -> {
            for (int bidder : Fixtures.outside(0, 2)) {
                c.still("bidder(" + bidder + ", 0)", () -> Fixtures.lines(3), x -> x.bidder(bidder, 0), BAD_INDEX);
                c.still("bidder(" + bidder + ", 1)", () -> Fixtures.lines(3), x -> x.bidder(bidder, 1), BAD_INDEX);
            }
            c.still("no bidders", Fixtures::noBidders, x -> x.bidder(0, 0), BAD_INDEX);
        });
        all.promise(27, "BAD_VALUE if what is out of range.", c -> {
            for (int what : Fixtures.outside(0, 6)) {
                c.still("bidder(0, " + what + ")", () -> Fixtures.lines(3), x -> x.bidder(0, what), BAD_VALUE);
            }
        });
    }

    private static void bidderByTheAward(Sentences all) {
        all.promise(27, "5 what the award pays it (0 if it gives it no line),", c -> {
            c.still("all four lines, no fee", () -> Fixtures.lines(4), x -> x.bidder(1, 5), 20);
            c.still("no line, though with a fee", () -> Fixtures.lines(4), x -> x.bidder(0, 5), 0);
            c.still("all eight lines, with a fee", () -> Fixtures.lines(8), x -> x.bidder(2, 5), 38);
            c.still("none of eight", () -> Fixtures.lines(8), x -> x.bidder(1, 5), 0);
            for (int bidder = 0; bidder < 3; bidder++) {
                int one = bidder;
                c.still("without lines", () -> Fixtures.lines(0), x -> x.bidder(one, 5), 0);
            }
        });
        all.promise(27, "6 what all lines would cost by it alone (0 without lines)", c -> {
            int[] costs = {10 + 2 + 4 + 6 + 8, 20, 34};
            for (int bidder = 0; bidder < 3; bidder++) {
                int one = bidder;
                c.still("with four lines", () -> Fixtures.lines(4), x -> x.bidder(one, 6), costs[one]);
                c.still("without lines", () -> Fixtures.lines(0), x -> x.bidder(one, 6), 0);
            }
        });
    }

    private static void award(Sentences all) {
        all.promise(28, "Returns the cost of the award.", c ->
            c.still("with four lines", () -> Fixtures.lines(4), x -> x.award(), 20));
        all.promise(28, "Returns the cost,", c -> {
            BridgeRounds least = Fixtures.frame();
            least.addBidder(0, 1, 1, 1, 1);
            least.addLine(0, 0, 1);
            c.due("the least one", least.award(), 1);
            BridgeRounds most = Fixtures.frame();
            most.addBidder(999, 99, 99, 99, 99);
            for (int line = 0; line < 8; line++) {
                most.addLine(0, 0, 9);
            }
            c.due("the greatest one", most.award(), 999 + 8 * 9 * 99);
        });
        all.promise(28, "0 without lines;", c -> {
            c.still("with bidders", () -> Fixtures.lines(0), x -> x.award(), 0);
            c.still("without bidders", Fixtures::frame, x -> x.award(), 0);
        });
        all.promise(28, "NONE if there are lines, and no bidders.", c -> {
            c.still("one line", Fixtures::noBidders, x -> x.award(), NONE);
            BridgeRounds x = Fixtures.noBidders();
            x.addBidder(0, 1, 1, 1, 1);
            c.due("with a bidder", x.award(), 1);
            x.undo();
            c.due("without one again", x.award(), NONE);
        });
    }

    private static void ratingBehind(Sentences all) {
        all.promise(29, "Tells the true rating that a bridge would have if all lines were carried out now", c -> {
            BridgeRounds x = Fixtures.frame();
            c.due("without lines", x.ratingBehind(0), 7);
            x.addLine(0, 1, 1);
            c.due("one point", x.ratingBehind(0), 8);
            x.addLine(0, 1, 1);
            c.due("and one more", x.ratingBehind(0), 9);
            x.addLine(0, 1, 9);
            c.due("not above 9", x.ratingBehind(0), 9);
            c.due("the true rating now", x.bridge(0, 2), 7);
            x.clearLines();
            c.due("lines that were removed", x.ratingBehind(0), 7);
            for (int line = 0; line < 8; line++) {
                x.addLine(0, line % 2, 1);
            }
            c.due("eight lines", x.ratingBehind(0), 9);
            BridgeRounds worn = Fixtures.later(Fixtures.deck(5, 30), 3);
            c.due("now, a year before it is 4", worn.ratingBehind(0), 5);
            worn.addLine(0, 0, 2);
            c.due("now, a year before it is less", worn.ratingBehind(0), 7);
        });
        all.promise(29, "(also without bidders).", c ->
            c.still("without bidders", Fixtures::noBidders, x -> x.ratingBehind(0), 8));
        all.promise(29, "`bridge`: its number", c -> {
            BridgeRounds x = Fixtures.roads(4, 8);
            for (int bridge = 0; bridge < 6; bridge++) {
                Fixtures.bridgeOf(x, bridge, bridge);
            }
            x.addLine(5, 0, 2);
            c.due("the last one", x.ratingBehind(5), 7);
            c.due("the first one", x.ratingBehind(0), 0);
        });
        all.promise(29, "Returns the rating;", c -> {
            c.still("0 without components", () -> Fixtures.bridges(1), x -> x.ratingBehind(0), 0);
            BridgeRounds x = Fixtures.deck(0, 0);
            x.addLine(0, 0, 9);
            c.due("from 0 to 9", x.ratingBehind(0), 9);
        });
        all.promise(29, "BAD_INDEX if there is no such bridge.", c -> {
            for (int bridge : Fixtures.outside(0, 0)) {
                c.still("ratingBehind(" + bridge + ")", Fixtures::frame, x -> x.ratingBehind(bridge), BAD_INDEX);
            }
        });
    }

    private static void repair(Sentences all) {
        all.promise(30, "Carries out the award.", c -> {
            BridgeRounds x = Fixtures.lines(4);
            x.repair();
            int[] ratings = {9, 8, 6, 9};
            for (int component = 0; component < 4; component++) {
                c.due("rating of " + component, x.component(0, component, 1), ratings[component]);
            }
            c.due("lines", x.count(3), 0);
            c.due("spent", x.count(8), 20);
        });
        all.promise(30, "Recorded.", c -> {
            c.recorded("with lines", () -> Fixtures.lines(4), x -> x.repair(), 20);
            c.recorded("without lines", () -> Fixtures.lines(0), x -> x.repair(), 0);
            c.recorded("without lines and bidders", Fixtures::frame, x -> x.repair(), 0);
        });
        all.promise(30, "Returns its cost;", c -> {
            BridgeRounds x = Fixtures.lines(8);
            c.due("with eight lines", x.repair(), 38);
            c.due("without lines", x.repair(), 0);
        });
        all.promise(30, "BAD_STATE if there are lines, and no bidders.", c ->
            c.still("repair()", Fixtures::noBidders, x -> x.repair(), BAD_STATE));
    }
}
