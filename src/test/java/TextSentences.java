import java.math.BigInteger;

/** The sentences of promises 31 to 36: the history, the text and the digest. */
final class TextSentences {
    private static final int NONE = BridgeRounds.NONE;
    private static final int BAD_VALUE = BridgeRounds.BAD_VALUE;
    private static final int BAD_STATE = BridgeRounds.BAD_STATE;
    private static final int FULL = BridgeRounds.FULL;

    private TextSentences() {
    }

    static void tests(Sentences all) {
        undo(all);
        type(all);
        clearText(all);
        textFault(all);
        lay(all);
        digest(all);
        digestOfParts(all);
    }

    private static BridgeRounds full() {
        return Fixtures.withText(Fixtures.towns(2), " ".repeat(100));
    }

    private static void undo(Sentences all) {
        all.promise(31, "Removes and restores the latest state of the history.", c -> {
            BridgeRounds x = Fixtures.frame();
            long first = x.digest();
            x.pass(1);
            long second = x.digest();
            x.inspect(0);
            x.undo();
            c.due("the latest one", x.digest(), second);
            x.undo();
            c.due("the one before", x.digest(), first);
            BridgeRounds lines = Fixtures.lines(8);
            long eight = lines.digest();
            lines.clearLines();
            lines.addBridge(5);
            lines.addComponent(1, 3, 9, 9);
            lines.addLine(1, 0, 9);
            lines.addLine(0, 3, 8);
            for (int left = 4; left >= 0; left--) {
                c.due("undo()", lines.undo(), left);
            }
            c.due("lines that others came after", lines.digest(), eight);
        });
        all.promise(31, "Returns the number of states that are left in it;", c -> {
            BridgeRounds x = new BridgeRounds();
            for (int year = 1; year <= 9; year++) {
                x.pass(1);
            }
            for (int left = 4; left >= 0; left--) {
                c.due("undo()", x.undo(), left);
            }
        });
        all.promise(31, "BAD_STATE if it is empty.", c -> {
            c.still("a new object", BridgeRounds::new, x -> x.undo(), BAD_STATE);
            BridgeRounds x = Fixtures.towns(3);
            c.due("the only one", x.undo(), 0);
            c.due("none any more", x.undo(), BAD_STATE);
            c.due("towns", x.count(0), 0);
            x.addTowns(2);
            c.due("a new one", x.undo(), 0);
        });
    }

    private static void type(Sentences all) {
        all.promise(32, "Appends a byte to the text.", c -> {
            BridgeRounds x = Fixtures.withText(Fixtures.towns(2), "0-1:");
            c.due("one is missing", x.textFault(), 4);
            x.type('9');
            c.due("complete", x.textFault(), NONE);
            x.lay();
            c.due("the length", x.road(0, 2), 9);
        });
        all.promise(32, "`code`: the byte, 0 to 255", c -> {
            for (int code = 0; code <= 255; code++) {
                BridgeRounds x = new BridgeRounds();
                c.due("type(" + code + ")", x.type(code), 1);
                c.due("the text has it", x.clearText(), 1);
            }
        });
        all.promise(32, "Returns the length of the text;", c -> {
            BridgeRounds x = new BridgeRounds();
            for (int length = 1; length <= 100; length++) {
                c.due("type(32)", x.type(32), length);
            }
        });
        all.promise(32, "BAD_VALUE if code is out of range;", c -> {
            for (int code : Fixtures.outside(0, 255)) {
                c.still("type(" + code + ")", BridgeRounds::new, x -> x.type(code), BAD_VALUE);
            }
            // As a byte these would be a digit and a blank.
            c.still("type(256 + 48)", BridgeRounds::new, x -> x.type(256 + 48), BAD_VALUE);
            c.still("type(32 - 256)", BridgeRounds::new, x -> x.type(32 - 256), BAD_VALUE);
        });
        all.promise(32, "FULL if the text has 100 bytes.", c -> {
            BridgeRounds x = Fixtures.withText(Fixtures.towns(2), " ".repeat(99));
            c.due("with 99", x.type(32), 100);
            c.due("with 100", x.type(32), FULL);
            c.still("with 100", TextSentences::full, y -> y.type('0'), FULL);
        });
    }

    private static void clearText(Sentences all) {
        all.promise(33, "Empties the text.", c -> {
            BridgeRounds x = Fixtures.withText(Fixtures.towns(2), "0-1:5");
            x.clearText();
            c.due("its fault", x.textFault(), 0);
            c.due("its length", x.type('0'), 1);
            c.due("what was there is gone", x.textFault(), 1);
            BridgeRounds most = full();
            most.clearText();
            c.due("room again", most.type('0'), 1);
        });
        all.promise(33, "Returns the length that it had.", c -> {
            c.still("a new object", BridgeRounds::new, x -> x.clearText(), 0);
            BridgeRounds x = full();
            c.due("100", x.clearText(), 100);
            c.due("0", x.clearText(), 0);
            x.type('-');
            c.due("1", x.clearText(), 1);
        });
    }

    private static void textFault(Sentences all) {
        all.promise(34, "Checks the text.", c -> {
            BridgeRounds x = Fixtures.withText(Fixtures.towns(2), "0-1:5x");
            c.due("textFault()", x.textFault(), 5);
            c.due("textFault() again", x.textFault(), 5);
            c.due("it lays nothing", x.count(1), 0);
        });
        all.promise(34, "Returns its fault;", c -> {
            c.still("the first byte", () -> Fixtures.withText(Fixtures.towns(2), "x"), x -> x.textFault(), 0);
            c.still("the length", TextSentences::full, x -> x.textFault(), 100);
            c.still("of an empty text", BridgeRounds::new, x -> x.textFault(), 0);
        });
        all.promise(34, "NONE if it has none.", c -> {
            c.still("0-1:5", () -> Fixtures.withText(Fixtures.towns(2), "0-1:5"), x -> x.textFault(), NONE);
            c.still("100 bytes", () -> Fixtures.withText(Fixtures.towns(2), " ".repeat(95) + "0-1:5"),
                    x -> x.textFault(), NONE);
        });
    }

    private static BridgeRounds twoRoads() {
        return Fixtures.withText(Fixtures.towns(3), "2-1:07;0-2:99b");
    }

    private static void lay(Sentences all) {
        all.promise(35, "Adds the roads of the text with their bridges, in their order.", c -> {
            BridgeRounds x = twoRoads();
            x.lay();
            int[][] parts = {{2, 1, 7, NONE}, {0, 2, 99, 0}};
            for (int road = 0; road < 2; road++) {
                for (int what = 0; what <= 3; what++) {
                    c.due("road(" + road + ", " + what + ")", x.road(road, what), parts[road][what]);
                }
            }
            c.due("bridges", x.count(2), 1);
            BridgeRounds six = Fixtures.withText(Fixtures.towns(2), "0-1:1b;0-1:2b;0-1:3b;0-1:4b;0-1:5b;0-1:6b");
            six.lay();
            for (int bridge = 0; bridge < 6; bridge++) {
                c.due("the road of the bridge " + bridge, six.bridge(bridge, 0), bridge);
                c.due("its length", six.road(bridge, 2), 1 + bridge);
            }
            BridgeRounds other = Fixtures.withText(Fixtures.towns(2), "0-1:1b;0-1:2b");
            other.lay();
            other.clearText();
            Fixtures.type(other, "0-1:3;0-1:4b");
            other.lay();
            c.due("no bridge of a text before", other.road(2, 3), NONE);
            c.due("the bridge of this text", other.road(3, 3), 2);
        });
        all.promise(35, "The text stays.", c -> {
            BridgeRounds x = twoRoads();
            x.lay();
            c.due("it has no fault", x.textFault(), NONE);
            c.due("again", x.lay(), 4);
            c.due("its length", x.clearText(), 14);
        });
        all.promise(35, "Recorded, as one call.", c -> {
            c.recorded("lay()", TextSentences::twoRoads, x -> x.lay(), 2);
            BridgeRounds x = twoRoads();
            x.lay();
            c.due("undo()", x.undo(), 1);
            c.due("no roads", x.count(1), 0);
            c.due("no bridges", x.count(2), 0);
        });
        all.promise(35, "Returns how many roads there are then;", c -> {
            BridgeRounds x = twoRoads();
            c.due("2", x.lay(), 2);
            x.addRoad(0, 1, 5);
            c.due("5", x.lay(), 5);
            BridgeRounds y = Fixtures.withText(Fixtures.roads(3, 18), "0-1:5;0-1:6");
            c.due("20", y.lay(), 20);
        });
        all.promise(35, "BAD_STATE if the text has a fault.", c -> {
            c.still("an empty text", () -> Fixtures.towns(3), x -> x.lay(), BAD_STATE);
            c.still("a fault at the end", () -> Fixtures.withText(twoRoads(), "x"), x -> x.lay(), BAD_STATE);
            c.still("an end too early", () -> Fixtures.withText(twoRoads(), ";"), x -> x.lay(), BAD_STATE);
            c.still("no room for the second road", () -> Fixtures.withText(Fixtures.roads(3, 19), "0-1:5;0-1:6"),
                    x -> x.lay(), BAD_STATE);
            c.still("no room for the bridge", () -> Fixtures.withText(Fixtures.bridges(6), "0-1:5;0-1:6b"),
                    x -> x.lay(), BAD_STATE);
            c.still("no such town", () -> Fixtures.withText(Fixtures.towns(3), "0-1:5;0-3:5"), x -> x.lay(), BAD_STATE);
        });
    }

    /** The hash of the numbers, by numbers that do not overflow, cut to 64 bits at the end. */
    private static long hash(int... numbers) {
        BigInteger h = BigInteger.valueOf(17);
        for (int number : numbers) {
            h = h.multiply(BigInteger.valueOf(31)).add(BigInteger.valueOf(number));
        }
        return h.longValue();
    }

    private static void digest(Sentences all) {
        all.promise(36, "Returns a hash of the state.", c -> {
            c.still("digest()", Fixtures::frame, x -> x.digest() == Fixtures.frame().digest() ? 1 : 0, 1);
            BridgeRounds x = Fixtures.frame();
            long before = x.digest();
            Fixtures.type(x, "0-1");
            c.due("the text plays no part", x.digest(), before);
            x.pass(1);
            c.due("another state", x.digest() == before ? 1 : 0, 0);
            x.undo();
            c.due("the history plays no part", x.digest(), before);
        });
        all.promise(36, "It begins with h = 17;", c -> {
            long h = 17;
            for (int what = 0; what <= 10; what++) {
                h *= 31;
            }
            c.still("a new object", BridgeRounds::new, x -> x.digest(), hash(new int[11]));
            c.due("by eleven turns", new BridgeRounds().digest(), h);
        });
        all.promise(36, "for each of the following numbers v, in this order, h becomes 31 * h + v (long arithmetic, with overflow):", c -> {
            c.still("two towns", () -> Fixtures.towns(2), x -> x.digest(), hash(2, 0, 0, 0, 0, 0, 0, 0, 0, 0, 0));
            BridgeRounds x = Fixtures.roads(10, 20);
            int[] numbers = new int[11 + 4 * 20];
            numbers[0] = 10;
            numbers[1] = 20;
            for (int road = 0; road < 20; road++) {
                numbers[11 + 4 * road] = road % 10;
                numbers[12 + 4 * road] = (road + 1) % 10;
                numbers[13 + 4 * road] = 11 + road;
                numbers[14 + 4 * road] = -1;
            }
            c.due("91 numbers", x.digest(), hash(numbers));
        });
        all.promise(36, "count() of 0 to 10;", c -> {
            BridgeRounds x = Fixtures.towns(4);
            x.pass(50);
            c.due("towns and the year", x.digest(), hash(4, 0, 0, 0, 0, 50, 0, 0, 0, 0, 0));
            c.due("all of them", everything().digest(), hash(
                    2, 1, 1, 1, 1, 4, 1, 6, 15, 1, 1,
                    1, 0, 5, 0,
                    0, 1, 3, 7, 0, 4, 1, 0, 40,
                    2, 3, 0, 50, 3, 64,
                    0, 0, 1, 0,
                    9, 1, 2, 3, 4, 12, 12));
        });
        all.promise(36, "Returns h.", c ->
            c.due("a new object, times 31 eleven times", new BridgeRounds().digest(), hash(0, 0, 0, 0, 0, 0, 0, 0, 0, 0, 0)));
    }

    /** A state in which none of the counts is 0. */
    private static BridgeRounds everything() {
        BridgeRounds x = Fixtures.towns(2);
        x.addRoad(1, 0, 5);
        x.addBridge(0);
        x.addComponent(0, 2, 7, 50);
        x.rest(0, 0, NONE);
        x.inspect(0);
        x.addLine(0, 0, 2);
        x.addBidder(9, 1, 2, 3, 4);
        x.repair();
        x.addLine(0, 0, 1);
        x.pass(4);
        x.setRating(0, 0, 3);
        return x;
    }

    private static void digestOfParts(Sentences all) {
        all.promise(36, "for each road its parts 0 to 3;", c -> {
            BridgeRounds x = Fixtures.towns(3);
            x.addRoad(2, 1, 17);
            x.addRoad(0, 2, 99);
            c.due("two roads", x.digest(), hash(3, 2, 0, 0, 0, 0, 0, 0, 0, 0, 0, 2, 1, 17, -1, 0, 2, 99, -1));
        });
        all.promise(36, "for each bridge its properties 0 to 8, and for each of its components the properties 0 to 5;", c -> {
            BridgeRounds x = Fixtures.towns(2);
            x.addRoad(0, 1, 5);
            x.addRoad(1, 0, 6);
            x.addBridge(1);
            x.addBridge(0);
            x.addComponent(0, 1, 8, 10);
            x.addComponent(0, 2, 6, 0);
            x.addComponent(1, 3, 4, 60);
            x.rest(0, 0, 1);
            x.rest(0, 1, NONE);
            x.inspect(0);
            x.pass(1);
            x.close(1, true);
            c.due("two bridges", x.digest(), hash(
                    2, 2, 2, 0, 0, 1, 1, 7, 0, 1, 0,
                    0, 1, 5, 1, 1, 0, 6, 0,
                    1, 2, 6, 6, 0, 2, 0, 0, 28,
                    1, 8, 10, 10, 6, 2, 2, 6, 0, 0, 6, 64,
                    0, 1, 0, 0, 0, 1, 1, 1, 0,
                    3, 4, 60, 60, 0, 0));
        });
        all.promise(36, "for each line its parts 0 to 3;", c -> {
            BridgeRounds x = Fixtures.towns(2);
            x.addRoad(0, 1, 5);
            x.addBridge(0);
            x.addComponent(0, 1, 0, 0);
            x.addLine(0, 0, 9);
            x.addLine(0, 0, 4);
            c.due("two lines", x.digest(), hash(
                    2, 1, 1, 2, 0, 0, 0, 0, 0, 0, 0,
                    0, 1, 5, 0,
                    0, 1, 0, 0, 0, 1, 0, 0, 0,
                    1, 0, 0, 0, 0, 0,
                    0, 0, 9, -1, 0, 0, 4, -1));
        });
        all.promise(36, "for each bidder its parts 0 to 6.", c -> {
            BridgeRounds x = new BridgeRounds();
            x.addBidder(999, 1, 20, 3, 40);
            x.addBidder(0, 99, 98, 97, 96);
            c.due("two bidders", x.digest(), hash(
                    0, 0, 0, 0, 2, 0, 0, 0, 0, 0, 0,
                    999, 1, 20, 3, 40, 0, 0, 0, 99, 98, 97, 96, 0, 0));
        });
    }
}
