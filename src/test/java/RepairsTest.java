/** Promises 23 to 30: lines of repairs, bidders and the award. */
final class RepairsTest {
    private static final int NONE = BridgeRounds.NONE;
    private static final int BAD_INDEX = BridgeRounds.BAD_INDEX;
    private static final int BAD_VALUE = BridgeRounds.BAD_VALUE;
    private static final int BAD_STATE = BridgeRounds.BAD_STATE;
    private static final int FULL = BridgeRounds.FULL;
    private static final int MIN = Integer.MIN_VALUE;
    private static final int MAX = Integer.MAX_VALUE;

    private static final Check CHECK = new Check("RepairsTest");

    public static void main(String[] args) {
        addBidder();
        addLine();
        clearLines();
        line();
        bidder();
        award();
        awardOfSeveral();
        ratingBehind();
        repair();
        CHECK.end();
    }

    private static BridgeRounds noLines() {
        return Fixtures.lines(0);
    }

    // Promise 23
    private static void addBidder() {
        CHECK.recorded("the least", Fixtures::frame, x -> x.addBidder(0, 1, 1, 1, 1), 0);
        CHECK.recorded("the most", Fixtures::frame, x -> x.addBidder(999, 99, 99, 99, 99), 0);
        BridgeRounds y = new BridgeRounds();
        for (int bidder = 0; bidder < 3; bidder++) {
            CHECK.due("on an empty map", y.addBidder(1, 2, 3, 4, 5), bidder);
        }
        for (int fee : new int[] {-1, 1000, MIN, MAX}) {
            CHECK.still("fee " + fee, Fixtures::frame, x -> x.addBidder(fee, 1, 1, 1, 1), BAD_VALUE);
            CHECK.still("full, fee " + fee, RepairsTest::noLines, x -> x.addBidder(fee, 1, 1, 1, 1), BAD_VALUE);
        }
        for (int price : new int[] {0, 100, -1, MIN, MAX}) {
            CHECK.still("price0 " + price, Fixtures::frame, x -> x.addBidder(0, price, 1, 1, 1), BAD_VALUE);
            CHECK.still("price1 " + price, Fixtures::frame, x -> x.addBidder(0, 1, price, 1, 1), BAD_VALUE);
            CHECK.still("price2 " + price, Fixtures::frame, x -> x.addBidder(0, 1, 1, price, 1), BAD_VALUE);
            CHECK.still("price3 " + price, Fixtures::frame, x -> x.addBidder(0, 1, 1, 1, price), BAD_VALUE);
            CHECK.still("full, price3 " + price, RepairsTest::noLines, x -> x.addBidder(0, 1, 1, 1, price), BAD_VALUE);
        }
        CHECK.still("full", RepairsTest::noLines, x -> x.addBidder(0, 1, 1, 1, 1), FULL);
    }

    // Promise 24
    private static void addLine() {
        CHECK.recorded("the least", Fixtures::frame, x -> x.addLine(0, 0, 1), 0);
        CHECK.recorded("the most", Fixtures::frame, x -> x.addLine(0, 3, 9), 0);
        CHECK.recorded("the next one, for the same component", () -> Fixtures.lines(1), x -> x.addLine(0, 0, 9), 1);
        CHECK.recorded("the last one", () -> Fixtures.lines(7), x -> x.addLine(0, 0, 9), 7);
        for (int bridge : new int[] {-1, 1, 6, MIN, MAX}) {
            CHECK.still("bridge " + bridge, Fixtures::frame, x -> x.addLine(bridge, 0, 0), BAD_INDEX);
            CHECK.still("full, bridge " + bridge, () -> Fixtures.lines(8), x -> x.addLine(bridge, 0, 1), BAD_INDEX);
        }
        for (int component : new int[] {-1, 4, 6, MIN, MAX}) {
            CHECK.still("component " + component, Fixtures::frame, x -> x.addLine(0, component, 0), BAD_INDEX);
        }
        for (int points : new int[] {0, 10, -1, MIN, MAX}) {
            CHECK.still("points " + points, Fixtures::frame, x -> x.addLine(0, 0, points), BAD_VALUE);
            CHECK.still("full, points " + points, () -> Fixtures.lines(8), x -> x.addLine(0, 0, points), BAD_VALUE);
        }
        CHECK.still("full", () -> Fixtures.lines(8), x -> x.addLine(0, 0, 1), FULL);
    }

    // Promise 25
    private static void clearLines() {
        CHECK.recorded("clearLines()", () -> Fixtures.lines(5), x -> x.clearLines(), 5);
        CHECK.recorded("none", () -> Fixtures.lines(0), x -> x.clearLines(), 0);
        CHECK.recorded("on an empty map", BridgeRounds::new, x -> x.clearLines(), 0);
        BridgeRounds x = Fixtures.lines(8);
        x.clearLines();
        CHECK.due("no lines", x.count(3), 0);
        CHECK.due("no line 0", x.line(0, 0), BAD_INDEX);
        CHECK.due("the bidders stay", x.count(4), 3);
        CHECK.due("nothing is carried out", x.component(0, 1, 1), 7);
        CHECK.due("nothing is spent", x.count(8), 0);
        CHECK.due("the next line is the first", x.addLine(0, 2, 3), 0);
    }

    // Promise 26
    private static void line() {
        for (int line : new int[] {-1, 3, 8, MIN, MAX}) {
            CHECK.still("line(" + line + ", 4)", () -> Fixtures.lines(3), x -> x.line(line, 4), BAD_INDEX);
        }
        for (int what : new int[] {-1, 4, MIN, MAX}) {
            CHECK.still("line(0, " + what + ")", () -> Fixtures.lines(3), x -> x.line(0, what), BAD_VALUE);
        }
        CHECK.still("without bidders", Fixtures::noBidders, x -> x.line(0, 3), NONE);
        BridgeRounds x = Fixtures.bridges(2);
        x.addComponent(1, 3, 5, 0);
        x.addComponent(1, 2, 5, 0);
        x.addComponent(0, 0, 5, 0);
        x.addLine(1, 1, 7);
        x.addLine(0, 0, 3);
        x.addBidder(0, 9, 9, 1, 9);
        x.addBidder(0, 1, 9, 9, 9);
        int[][] due = {{1, 1, 7, 0}, {0, 0, 3, 1}};
        for (int line = 0; line < 2; line++) {
            for (int what = 0; what <= 3; what++) {
                CHECK.due("line(" + line + ", " + what + ")", x.line(line, what), due[line][what]);
            }
        }
    }

    // Promise 27
    private static void bidder() {
        for (int bidder : new int[] {-1, 3, MIN, MAX}) {
            CHECK.still("bidder(" + bidder + ", 7)", () -> Fixtures.lines(3), x -> x.bidder(bidder, 7), BAD_INDEX);
        }
        CHECK.still("no bidders", Fixtures::noBidders, x -> x.bidder(0, 0), BAD_INDEX);
        for (int what : new int[] {-1, 7, MIN, MAX}) {
            CHECK.still("bidder(0, " + what + ")", () -> Fixtures.lines(3), x -> x.bidder(0, what), BAD_VALUE);
        }
        BridgeRounds x = Fixtures.frame();
        x.addBidder(30, 11, 12, 13, 14);
        x.addBidder(5, 10, 12, 14, 16);
        x.addBidder(999, 1, 2, 3, 4);
        int[][] without = {{30, 11, 12, 13, 14, 0, 0}, {5, 10, 12, 14, 16, 0, 0}, {999, 1, 2, 3, 4, 0, 0}};
        parts("without lines", x, without);
        x.addLine(0, 0, 2);
        x.addLine(0, 3, 9);
        // by the bidder 0: 30 + 22 + 126 = 178; by 1: 5 + 20 + 144 = 169; by both: 35 + 20 + 126 = 181
        int[][] with = {{30, 11, 12, 13, 14, 0, 178}, {5, 10, 12, 14, 16, 169, 169}, {999, 1, 2, 3, 4, 0, 1037}};
        parts("with two lines", x, with);
        x.addLine(0, 3, 9);
        x.addLine(0, 0, 9);
        x.addLine(0, 0, 9);
        x.addLine(0, 0, 9);
        // kind 0: 29 points, kind 3: 18 points; 0 alone: 30 + 319 + 252 = 601; 1 alone: 5 + 290 + 288 = 583;
        // both: 35 + 290 + 252 = 577
        int[][] both = {{30, 11, 12, 13, 14, 282, 601}, {5, 10, 12, 14, 16, 295, 583}, {999, 1, 2, 3, 4, 0, 1100}};
        parts("with six lines", x, both);
        CHECK.due("the award is what all are paid", x.award(), 577);
    }

    private static void parts(String when, BridgeRounds x, int[][] due) {
        for (int bidder = 0; bidder < due.length; bidder++) {
            for (int what = 0; what <= 6; what++) {
                String call = when + ": bidder(" + bidder + ", " + what + ")";
                CHECK.due(call, x.bidder(bidder, what), due[bidder][what]);
            }
        }
    }

    // Promise 28
    private static void award() {
        CHECK.still("on an empty map", BridgeRounds::new, x -> x.award(), 0);
        CHECK.still("without lines", () -> Fixtures.lines(0), x -> x.award(), 0);
        CHECK.still("without bidders", Fixtures::noBidders, x -> x.award(), NONE);
        CHECK.still("by the bidder without a fee", () -> Fixtures.lines(4), x -> x.award(), 20);
        CHECK.still("the cheap one is worth his fee", () -> Fixtures.lines(8), x -> x.award(), 38);
        BridgeRounds x = Fixtures.frame();
        x.addBidder(999, 99, 99, 99, 99);
        for (int i = 0; i < 8; i++) {
            x.addLine(0, i % 4, 9);
        }
        CHECK.due("the dearest award", x.award(), 999 + 8 * 9 * 99);
    }

    private static void givenTo(String what, BridgeRounds x, int... due) {
        for (int line = 0; line < due.length; line++) {
            CHECK.due(what + ", line " + line, x.line(line, 3), due[line]);
        }
    }

    /** Of several givings with the least cost the first one. */
    private static void awardOfSeveral() {
        BridgeRounds alike = Fixtures.frame();
        alike.addBidder(7, 3, 3, 3, 3);
        alike.addBidder(7, 3, 3, 3, 3);
        alike.addLine(0, 0, 1);
        alike.addLine(0, 1, 1);
        givenTo("alike", alike, 0, 0);
        // Without fees each line goes to the cheapest, of several to the first one.
        BridgeRounds free = Fixtures.frame();
        free.addBidder(0, 3, 5, 2, 9);
        free.addBidder(0, 2, 5, 2, 8);
        free.addBidder(0, 3, 4, 2, 8);
        for (int component = 0; component < 4; component++) {
            free.addLine(0, component, 2);
        }
        givenTo("without fees", free, 1, 2, 0, 1);
        CHECK.due("without fees", free.award(), 2 * (2 + 4 + 2 + 8));
        // 0 and 1 together cost as much as 2 alone, and as 1 alone: the first line decides.
        BridgeRounds sets = Fixtures.frame();
        sets.addBidder(4, 1, 9, 9, 9);
        sets.addBidder(0, 5, 5, 5, 5);
        sets.addBidder(8, 1, 1, 1, 1);
        sets.addLine(0, 0, 1);
        sets.addLine(0, 1, 1);
        CHECK.due("sets as cheap", sets.award(), 10);
        givenTo("sets as cheap", sets, 0, 1);
        // The lines the other way around.
        BridgeRounds turned = Fixtures.frame();
        turned.addBidder(4, 1, 9, 9, 9);
        turned.addBidder(0, 5, 5, 5, 5);
        turned.addBidder(8, 1, 1, 1, 1);
        turned.addLine(0, 1, 1);
        turned.addLine(0, 0, 1);
        CHECK.due("the other way around", turned.award(), 10);
        givenTo("the other way around", turned, 1, 0);
        // 1 alone costs as much as 0 alone.
        BridgeRounds alone = Fixtures.frame();
        alone.addBidder(9, 1, 2, 1, 1);
        alone.addBidder(8, 2, 2, 1, 1);
        alone.addLine(0, 1, 3);
        alone.addLine(0, 0, 1);
        CHECK.due("alone as cheap", alone.award(), 16);
        givenTo("alone as cheap", alone, 0, 0);
        // A fee keeps a bidder out who would be cheaper for one line, but comes later.
        BridgeRounds late = Fixtures.frame();
        late.addBidder(2, 5, 5, 5, 5);
        late.addBidder(1, 4, 6, 6, 6);
        late.addLine(0, 1, 4);
        late.addLine(0, 0, 1);
        CHECK.due("both as cheap as one", late.award(), 27);
        givenTo("both as cheap as one", late, 0, 0);
    }

    // Promise 29
    private static void ratingBehind() {
        for (int bridge : new int[] {-1, 1, 6, MIN, MAX}) {
            CHECK.still("ratingBehind(" + bridge + ")", Fixtures::frame, x -> x.ratingBehind(bridge), BAD_INDEX);
        }
        CHECK.still("without components", () -> Fixtures.bridges(1), x -> x.ratingBehind(0), 0);
        CHECK.still("without lines", Fixtures::frame, x -> x.ratingBehind(0), 7);
        CHECK.still("without bidders", Fixtures::noBidders, x -> x.ratingBehind(0), 8);
        BridgeRounds x = Fixtures.frame();
        x.addLine(0, 2, 3);
        CHECK.due("the other support", x.ratingBehind(0), 8);
        x.addLine(0, 1, 1);
        CHECK.due("both alike", x.ratingBehind(0), 8);
        x.addLine(0, 2, 9);
        CHECK.due("two lines of one component, up to 9", x.ratingBehind(0), 9);
        x.setRating(0, 0, 2);
        CHECK.due("the deck holds it down", x.ratingBehind(0), 2);
        x.addLine(0, 0, 4);
        CHECK.due("the deck too", x.ratingBehind(0), 6);
        CHECK.due("the rating now", x.bridge(0, 2), 2);
        x.addBridge(4);
        x.addComponent(1, 0, 3, 0);
        x.rest(1, 0, NONE);
        CHECK.due("lines of another bridge", x.ratingBehind(1), 3);
        x.addLine(1, 0, 5);
        CHECK.due("its own line", x.ratingBehind(1), 8);
        CHECK.due("the first one", x.ratingBehind(0), 6);
        CHECK.due("none of it is carried out", x.component(1, 0, 1), 3);
        x.clearLines();
        CHECK.due("lines that were removed", x.ratingBehind(1), 3);
        CHECK.due("lines that were removed", x.ratingBehind(0), 2);
        BridgeRounds y = Fixtures.frame();
        y.pass(3);
        CHECK.due("now, not a year later", y.ratingBehind(0), 7);
    }

    // Promise 30
    private static void repair() {
        CHECK.recorded("repair()", () -> Fixtures.lines(4), x -> x.repair(), 20);
        CHECK.recorded("without lines", () -> Fixtures.lines(0), x -> x.repair(), 0);
        CHECK.recorded("on an empty map", BridgeRounds::new, x -> x.repair(), 0);
        CHECK.still("without bidders", Fixtures::noBidders, x -> x.repair(), BAD_STATE);
        BridgeRounds x = Fixtures.frame();
        x.inspect(0);
        x.pass(3);
        x.addBidder(10, 1, 2, 3, 4);
        x.addLine(0, 1, 1);
        x.addLine(0, 2, 3);
        x.addLine(0, 2, 2);
        CHECK.due("repair()", x.repair(), 10 + 2 + 9 + 6);
        int[][] due = {{9, 30}, {8, 0}, {9, 0}, {7, 80}};
        for (int component = 0; component < 4; component++) {
            CHECK.due("rating of " + component, x.component(0, component, 1), due[component][0]);
            CHECK.due("wear of " + component, x.component(0, component, 2), due[component][1]);
        }
        CHECK.due("told stays", x.bridge(0, 3), 7);
        CHECK.due("true", x.bridge(0, 2), 9);
        CHECK.due("no lines", x.count(3), 0);
        CHECK.due("spent", x.count(8), 27);
        CHECK.due("the bidder stays", x.count(4), 1);
        CHECK.due("without lines", x.repair(), 0);
        CHECK.due("wear without lines", x.component(0, 0, 2), 30);
        x.addLine(0, 2, 1);
        CHECK.due("not above 9", x.repair(), 13);
        CHECK.due("not above 9", x.component(0, 2, 1), 9);
        CHECK.due("spent in all", x.count(8), 40);
        CHECK.due("undo()", x.undo(), 4);
        CHECK.due("spent before", x.count(8), 27);
        CHECK.due("the line again", x.line(0, 1), 2);
    }
}
