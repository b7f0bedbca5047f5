/** Promise 36: the digest. */
final class DigestTest {
    private static final Check CHECK = new Check("DigestTest");

    public static void main(String[] args) {
        CHECK.still("of a new object", BridgeRounds::new, x -> x.digest(), emptyDigest());
        byItsParts("towns", Fixtures.towns(3));
        byItsParts("roads", Fixtures.roads(5, 20));
        byItsParts("bridges", Fixtures.bridges(6));
        byItsParts("a frame", Fixtures.frame());
        byItsParts("all", everything());
        byItsNumbers();
        oneCallEach();
        CHECK.end();
    }

    private static long emptyDigest() {
        long h = 17;
        for (int i = 0; i < 11; i++) {
            h *= 31;
        }
        return h;
    }

    private static BridgeRounds everything() {
        BridgeRounds x = Fixtures.frame();
        x.addBridge(5);
        x.addComponent(1, 3, 4, 50);
        x.addBidder(100, 1, 20, 3, 40);
        x.addBidder(30, 10, 2, 30, 4);
        x.addLine(0, 2, 3);
        x.addLine(0, 1, 9);
        x.addLine(1, 0, 5);
        x.inspect(0);
        x.pass(4);
        x.close(1, true);
        return x;
    }

    /** The numbers in the order of the document, by the other methods. */
    private static void byItsParts(String what, BridgeRounds x) {
        long h = 17;
        for (int i = 0; i <= 10; i++) {
            h = 31 * h + x.count(i);
        }
        for (int road = 0; road < x.count(1); road++) {
            for (int i = 0; i <= 3; i++) {
                h = 31 * h + x.road(road, i);
            }
        }
        for (int bridge = 0; bridge < x.count(2); bridge++) {
            for (int i = 0; i <= 8; i++) {
                h = 31 * h + x.bridge(bridge, i);
            }
            for (int component = 0; component < x.bridge(bridge, 1); component++) {
                for (int i = 0; i <= 5; i++) {
                    h = 31 * h + x.component(bridge, component, i);
                }
            }
        }
        for (int line = 0; line < x.count(3); line++) {
            for (int i = 0; i <= 3; i++) {
                h = 31 * h + x.line(line, i);
            }
        }
        for (int bidder = 0; bidder < x.count(4); bidder++) {
            for (int i = 0; i <= 6; i++) {
                h = 31 * h + x.bidder(bidder, i);
            }
        }
        CHECK.due("digest() of " + what, x.digest(), h);
        CHECK.due("digest() of " + what + " again", x.digest(), h);
    }

    private static void byItsNumbers() {
        BridgeRounds x = Fixtures.towns(2);
        x.addRoad(1, 0, 5);
        x.addBridge(0);
        x.addComponent(0, 2, 7, 30);
        x.rest(0, 0, BridgeRounds.NONE);
        x.inspect(0);
        x.addLine(0, 0, 2);
        x.addBidder(9, 1, 2, 3, 4);
        x.pass(4);
        long[] numbers = {
            2, 1, 1, 1, 1, 4, 1, 6, 0, 1, 1,
            1, 0, 5, 0,
            0, 1, 6, 7, 0, 4, 1, 0, 40,
            2, 6, 20, 30, 6, 64,
            0, 0, 2, 0,
            9, 1, 2, 3, 4, 15, 15};
        long h = 17;
        for (long number : numbers) {
            h = 31 * h + number;
        }
        CHECK.due("digest() by its numbers", x.digest(), h);
    }

    /** The text is no part of the state. */
    private static void oneCallEach() {
        BridgeRounds x = everything();
        long before = x.digest();
        Fixtures.type(x, "0-1:5");
        CHECK.due("digest() with a text", x.digest(), before);
        x.clearText();
        CHECK.due("digest() with no text again", x.digest(), before);
        CHECK.due("not recorded", x.undo(), 4);
        CHECK.due("one call was taken back", x.bridge(1, 7), 0);
    }
}
