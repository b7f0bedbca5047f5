import java.util.function.Supplier;

/** Promises 32 to 35: the text. */
final class TextTest {
    private static final int NONE = BridgeRounds.NONE;
    private static final int BAD_VALUE = BridgeRounds.BAD_VALUE;
    private static final int BAD_STATE = BridgeRounds.BAD_STATE;
    private static final int FULL = BridgeRounds.FULL;
    private static final int MIN = Integer.MIN_VALUE;
    private static final int MAX = Integer.MAX_VALUE;

    private static final Check CHECK = new Check("TextTest");

    public static void main(String[] args) {
        type();
        clearText();
        rightOnes();
        tooEarly();
        wrongBytes();
        wrongNumbers();
        blanks();
        noRoomForRoads();
        noRoomForBridges();
        lay();
        layFaults();
        CHECK.end();
    }

    private static void fault(Supplier<BridgeRounds> map, String text, int due) {
        CHECK.still("textFault() of '" + text + "'", () -> Fixtures.withText(map.get(), text), x -> x.textFault(), due);
        if (due != NONE) {
            CHECK.still("lay() of '" + text + "'", () -> Fixtures.withText(map.get(), text), x -> x.lay(), BAD_STATE);
        }
    }

    /** With the towns 0 to 4. */
    private static void fault(String text, int due) {
        fault(() -> Fixtures.towns(5), text, due);
    }

    // Promise 32
    private static void type() {
        for (int code : new int[] {-1, 256, MIN, MAX}) {
            CHECK.still("type(" + code + ")", BridgeRounds::new, x -> x.type(code), BAD_VALUE);
            CHECK.still("full: type(" + code + ")", () -> Fixtures.withText(Fixtures.towns(2), " ".repeat(100)),
                    x -> x.type(code), BAD_VALUE);
        }
        CHECK.still("full: type(32)", () -> Fixtures.withText(Fixtures.towns(2), " ".repeat(100)), x -> x.type(32), FULL);
        BridgeRounds x = new BridgeRounds();
        for (int length = 1; length <= 100; length++) {
            CHECK.due("type() " + length, x.type(length == 1 ? 0 : 255), length);
        }
        CHECK.due("type() 101", x.type(0), FULL);
        CHECK.due("not recorded", x.undo(), BAD_STATE);
        for (int code = 0; code <= 255; code++) {
            BridgeRounds y = Fixtures.towns(5);
            CHECK.due("type(" + code + ")", y.type(code), 1);
            boolean fits = code == ' ' || ('0' <= code && code <= '4');
            CHECK.due("a road begins with " + code, y.textFault(), fits ? 1 : 0);
        }
    }

    // Promise 33
    private static void clearText() {
        for (int length : new int[] {0, 1, 57, 100}) {
            BridgeRounds x = Fixtures.withText(Fixtures.towns(2), "x".repeat(length));
            CHECK.due("clearText()", x.clearText(), length);
            CHECK.due("clearText() again", x.clearText(), 0);
            CHECK.due("the fault of no text", x.textFault(), 0);
            CHECK.due("the next byte is the first", x.type(' '), 1);
            CHECK.due("the fault is that of the new text", x.textFault(), 1);
            CHECK.due("not recorded", x.undo(), 0);
        }
    }

    // Promise 34
    private static void rightOnes() {
        fault("0-1:5", NONE);
        fault("0-1:5b", NONE);
        fault("4-0:99", NONE);
        fault("04-00:01", NONE);
        fault("0-1:05;1-2:7b;3-4:99", NONE);
        fault("0-1:1;0-1:1;1-0:1", NONE);
        fault(() -> Fixtures.towns(10), "9-0:1;09-08:10b", NONE);
        fault("0-1:1b;0-1:1b;0-1:1b;0-1:1b;0-1:1b;0-1:1b", NONE);
    }

    private static void tooEarly() {
        String text = "3-4:99b;0-1:5";
        for (int length = 0; length < text.length(); length++) {
            boolean whole = 5 <= length && length <= 7;
            fault(text.substring(0, length), whole ? NONE : length);
            fault(text.substring(0, length) + "   ", whole ? NONE : length + 3);
        }
        fault(" ".repeat(100), 100);
        // Bytes of a text that was longer are not there any more.
        String longer = "1-2:05b";
        for (int length = 0; length < longer.length(); length++) {
            BridgeRounds x = Fixtures.withText(Fixtures.towns(5), longer);
            x.clearText();
            Fixtures.type(x, longer.substring(0, length));
            CHECK.due("the first " + length + " bytes again", x.textFault(), length == 6 ? NONE : length == 5 ? 4 : length);
        }
        fault(BridgeRounds::new, "", 0);
        fault(BridgeRounds::new, "  ", 2);
    }

    private static void wrongBytes() {
        String text = "3-4:99b;0-1:5";
        for (int at = 0; at < text.length(); at++) {
            for (char wrong : new char[] {'x', 'B', '\t', 0, 255, 160, '/', '.', '\n'}) {
                fault(text.substring(0, at) + wrong + text.substring(at + 1), at);
            }
        }
        fault("-1:5", 0);
        fault(";0-1:5", 0);
        fault("0-1:5;;0-1:5", 6);
        fault("0--1:5", 2);
        fault("0:1", 1);
        fault("0-1-5", 3);
        fault("0-1;", 3);
        fault("0-1b", 3);
        fault("0-1:b", 4);
        fault("0-1:5bb", 6);
        fault("0-1:5b5", 6);
        fault("0-1:5-", 5);
        fault("0-1:5:", 5);
        fault("b", 0);
        fault("0-1:5,", 5);
        fault("0-1:5 0-1:5", 6);
    }

    private static void wrongNumbers() {
        fault("5-1:5", 0);
        fault("9", 0);
        fault("05", 0);
        fault("10", 0);
        fault("0-5:5", 2);
        fault("0-5", 2);
        fault("0-99x", 2);
        fault("1-1:5", 2);
        fault("1-1", 2);
        fault("1-01", 2);
        fault("01-1x", 3);
        fault("1-10", 2);
        fault("1-1x", 2);
        fault("0-1:0", 4);
        fault("0-1:00", 4);
        fault("0-1:0b", 4);
        fault("0-1:0x", 4);
        fault("0-1:100", 4);
        fault("0-1:005", 4);
        fault("0-1:123x", 4);
        fault("000-1:5", 0);
        fault("001", 0);
        fault("0-001:5", 2);
        fault("0-1:99;2-3:100b", 11);
        fault("0-1:5;2-2:5", 8);
        fault("0-1:5;0-0:5", 8);
        fault("0-1:5;7-1:5", 6);
        // As an int the many digits would be the town 1, or the length 1.
        fault("4294967297-0:5", 0);
        fault("0-4294967297:5", 2);
        fault("0-1:4294967297", 4);
        fault("0".repeat(99), 0);
        fault(BridgeRounds::new, "0-1:5", 0);
        fault(() -> Fixtures.towns(1), "0-0:5", 2);
        fault(() -> Fixtures.towns(1), "0-1:5", 2);
        fault(() -> Fixtures.towns(10), "10-0:5", 0);
        fault(() -> Fixtures.towns(10), "1-10:5", 2);
    }

    private static void blanks() {
        fault(" 0 - 1 : 5 b ; 1 - 2 : 7 ", NONE);
        fault("   0   -   1   :   05   ", NONE);
        fault("0-1:5    b", NONE);
        fault("0-1:5b    ;    2-1:5", NONE);
        fault("0 1-1:5", 2);
        fault("0-0 1:5", 2);
        fault("0-1 2:5", 4);
        fault("0-1:5 5", 6);
        fault("0-1:0 5", 4);
        fault("  7-1:5", 2);
        fault(" 0 - 0 : 5", 5);
        fault(" 0 - 1 : 00", 9);
        fault("0-1:5; ", 7);
        fault("0-1:5b ; x", 9);
    }

    private static void noRoomForRoads() {
        Supplier<BridgeRounds> full = () -> Fixtures.roads(5, 20);
        fault(full, "", 0);
        fault(full, "   ", 3);
        fault(full, "0-1:5", 0);
        fault(full, "  0-1:5", 2);
        fault(full, " x", 1);
        Supplier<BridgeRounds> two = () -> Fixtures.roads(5, 18);
        fault(two, "0-1:5;0-1:5", NONE);
        fault(two, "0-1:5;0-1:5;0-1:5", 12);
        fault(two, "0-1:5;0-1:5;  0-1:5b", 14);
        fault(two, "0-1:5;0-1:5;  x", 14);
        fault(two, "0-1:5;0-1:5; ", 13);
        fault(two, "0-1:5;0-1:5x;0-1:5", 11);
        fault(two, "0-1:5;0-1:0;0-1:5", 10);
        // 16 roads are all that a text has room for
        String most = "0-1:1;".repeat(15) + "0-1:1";
        fault(() -> Fixtures.roads(5, 4), most, NONE);
        fault(() -> Fixtures.roads(5, 5), most, 90);
    }

    private static void noRoomForBridges() {
        fault(() -> Fixtures.bridges(6), "0-1:5b", 5);
        fault(() -> Fixtures.bridges(6), "0-1:5  b", 7);
        fault(() -> Fixtures.bridges(6), "0-1:5", NONE);
        fault(() -> Fixtures.bridges(6), "0-1:5;0-1:55bx", 12);
        fault(() -> Fixtures.bridges(4), "0-1:5b;0-1:5;0-1:5b", NONE);
        fault(() -> Fixtures.bridges(4), "0-1:5b;0-1:5;0-1:5b;0-1:5b", 25);
        fault(() -> Fixtures.bridges(4), "0-1:5b;0-1:5bb", 13);
        fault("0-1:1b;0-1:1b;0-1:1b;0-1:1b;0-1:1b;0-1:1b;0-1:1b", 47);
    }

    // Promise 35
    private static void lay() {
        String text = " 3 - 0 : 07 b ; 1-2:99 ; 2-1:5b";
        CHECK.recorded("lay()", () -> Fixtures.withText(Fixtures.towns(4), text), x -> x.lay(), 3);
        CHECK.recorded("lay() more", () -> Fixtures.withText(Fixtures.bridges(2), text), x -> x.lay(), 11);
        BridgeRounds x = Fixtures.withText(Fixtures.bridges(2), text);
        x.pass(6);
        CHECK.due("lay()", x.lay(), 11);
        int[][] roads = {{3, 0, 7, 2}, {1, 2, 99, NONE}, {2, 1, 5, 3}};
        for (int road = 0; road < 3; road++) {
            for (int what = 0; what <= 3; what++) {
                CHECK.due("road(" + (8 + road) + ", " + what + ")", x.road(8 + road, what), roads[road][what]);
            }
        }
        int[][] bridges = {{8, 0, 0, 0, 6, 7, 0, 0, 0}, {10, 0, 0, 0, 6, 7, 0, 0, 0}};
        for (int bridge = 0; bridge < 2; bridge++) {
            for (int what = 0; what <= 8; what++) {
                CHECK.due("bridge(" + (2 + bridge) + ", " + what + ")", x.bridge(2 + bridge, what), bridges[bridge][what]);
            }
        }
        CHECK.due("no inspection", x.count(6), 0);
        BridgeRounds y = Fixtures.withText(Fixtures.towns(4), text);
        y.lay();
        y.clearText();
        Fixtures.type(y, "3-0:07;1-2:99b");
        CHECK.due("lay() of another text", y.lay(), 5);
        CHECK.due("a road without a bridge", y.road(3, 3), NONE);
        CHECK.due("a road with a bridge", y.road(4, 3), 2);
        CHECK.due("the text stays", x.textFault(), NONE);
        CHECK.due("lay() again", x.lay(), 14);
        CHECK.due("six bridges", x.count(2), 6);
        CHECK.due("no room any more", x.textFault(), 12);
        CHECK.due("no room any more", x.lay(), BAD_STATE);
        CHECK.due("undo()", x.undo(), 4);
        CHECK.due("one call", x.count(1), 11);
        CHECK.due("the text stays", x.clearText(), text.length());
    }

    private static void layFaults() {
        CHECK.still("lay() of no text", () -> Fixtures.towns(3), x -> x.lay(), BAD_STATE);
        CHECK.still("lay() of a text whose end is wrong", () -> Fixtures.withText(Fixtures.towns(3), "0-1:5b;1-2:5b;"),
                x -> x.lay(), BAD_STATE);
        CHECK.still("a fault by the map", () -> Fixtures.withText(Fixtures.roads(3, 19), "0-1:5;1-2:5"),
                x -> x.lay(), BAD_STATE);
    }
}
