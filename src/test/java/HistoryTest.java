/** Promise 31: the history. That a call is recorded, or is not, stands with the tests of that call. */
final class HistoryTest {
    private static final int BAD_STATE = BridgeRounds.BAD_STATE;

    private static final Check CHECK = new Check("HistoryTest");

    public static void main(String[] args) {
        atMostFive();
        afterUndo();
        wholeState();
        oldLines();
        nothingLeftBehind();
        textStays();
        CHECK.end();
    }

    private static void atMostFive() {
        for (int calls = 0; calls <= 12; calls++) {
            BridgeRounds x = new BridgeRounds();
            long[] digests = new long[calls + 1];
            digests[0] = x.digest();
            for (int call = 1; call <= calls; call++) {
                x.pass(call);
                digests[call] = x.digest();
            }
            int kept = Math.min(5, calls);
            for (int back = 1; back <= kept; back++) {
                CHECK.due("undo() " + back + " of " + calls, x.undo(), kept - back);
                CHECK.due("digest() behind it", x.digest(), digests[calls - back]);
            }
            CHECK.due("undo() of the empty history", x.undo(), BAD_STATE);
            CHECK.due("digest() behind it", x.digest(), digests[calls - kept]);
        }
    }

    /** States that were removed are gone; new ones are kept behind those that are left. */
    private static void afterUndo() {
        BridgeRounds x = new BridgeRounds();
        for (int year = 1; year <= 7; year++) {
            x.pass(1);
        }
        CHECK.due("undo()", x.undo(), 4);
        CHECK.due("undo()", x.undo(), 3);
        CHECK.due("the year", x.count(5), 5);
        x.pass(10);
        x.pass(10);
        x.pass(10);
        CHECK.due("the year", x.count(5), 35);
        int[] years = {25, 15, 5, 4, 3};
        for (int i = 0; i < 5; i++) {
            CHECK.due("undo()", x.undo(), 4 - i);
            CHECK.due("the year behind it", x.count(5), years[i]);
        }
        CHECK.due("undo()", x.undo(), BAD_STATE);
    }

    /** Every number of the state comes back, though all of them have changed. */
    private static void wholeState() {
        BridgeRounds x = Fixtures.frame();
        x.addBridge(3);
        x.addBidder(7, 1, 2, 3, 4);
        x.addLine(0, 1, 2);
        x.pass(9);
        x.inspect(0);
        x.close(1, true);
        long before = x.digest();
        x.pass(3);
        CHECK.due("round()", x.round(0, 200), 2);
        x.undo();
        x.undo();
        CHECK.due("digest() behind two", x.digest(), before);
        x.close(0, true);
        x.repair();
        x.rest(0, 0, 3);
        x.setRating(0, 3, 1);
        x.inspect(1);
        for (int i = 0; i < 5; i++) {
            x.undo();
        }
        CHECK.due("digest() behind five", x.digest(), before);
        x.addRoad(0, 1, 5);
        x.addComponent(1, 1, 1, 1);
        x.addBidder(1, 1, 1, 1, 1);
        x.addLine(0, 3, 3);
        x.addTowns(1);
        for (int i = 0; i < 5; i++) {
            x.undo();
        }
        CHECK.due("digest() behind five others", x.digest(), before);
        CHECK.due("the next road", x.addRoad(0, 1, 6), 8);
        CHECK.due("carries no bridge", x.road(8, 3), BridgeRounds.NONE);
        CHECK.due("the next component", x.addComponent(1, 0, 9, 0), 0);
        CHECK.due("rests on nothing", x.component(1, 0, 5), 0);
    }

    /** Lines that were written over come back. */
    private static void oldLines() {
        BridgeRounds x = Fixtures.frame();
        x.addLine(0, 1, 2);
        x.addBridge(6);
        x.addComponent(1, 2, 5, 5);
        x.clearLines();
        x.addLine(1, 0, 9);
        CHECK.due("undo()", x.undo(), 4);
        CHECK.due("undo()", x.undo(), 3);
        CHECK.due("the bridge of the line", x.line(0, 0), 0);
        CHECK.due("its component", x.line(0, 1), 1);
        CHECK.due("its points", x.line(0, 2), 2);
    }

    /** What undo takes away plays no part any more. */
    private static void nothingLeftBehind() {
        BridgeRounds x = Fixtures.towns(3);
        x.addRoad(0, 1, 5);
        x.addRoad(1, 2, 5);
        x.undo();
        CHECK.due("the road is gone", x.way(1, 2, 1), BridgeRounds.NONE);
        CHECK.due("the road is gone for loads", x.heaviest(1, 2), BridgeRounds.NONE);
        x.addBridge(0);
        x.addComponent(0, 0, 9, 0);
        x.addComponent(0, 0, 8, 0);
        x.rest(0, 0, 1);
        x.rest(0, 1, BridgeRounds.NONE);
        CHECK.due("the bridge bears", x.bridge(0, 2), 8);
        x.undo();
        x.undo();
        x.undo();
        CHECK.due("the deck rests on nothing", x.component(0, 0, 5), 0);
        x.addComponent(0, 3, 7, 1);
        CHECK.due("the new one rests on nothing", x.component(0, 1, 5), 0);
        CHECK.due("the new one has its rate", x.component(0, 1, 3), 1);
    }

    private static void textStays() {
        BridgeRounds x = Fixtures.towns(3);
        Fixtures.type(x, "0-1:5");
        CHECK.due("undo()", x.undo(), 0);
        CHECK.due("the text needs its towns", x.textFault(), 0);
        CHECK.due("the text is still there", x.type(';'), 6);
        x.addTowns(2);
        x.clearText();
        x.undo();
        CHECK.due("the text is still empty", x.type('0'), 1);
        CHECK.due("typing is not recorded", x.undo(), BAD_STATE);
    }
}
