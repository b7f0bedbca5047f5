import java.util.function.Supplier;

/** The sentences of the description about the text. */
final class TextDescription {
    private static final int NONE = BridgeRounds.NONE;
    private static final int BAD_STATE = BridgeRounds.BAD_STATE;
    private static final int FULL = BridgeRounds.FULL;

    private TextDescription() {
    }

    static void tests(Sentences all) {
        grammar(all);
        numbers(all);
        blanks(all);
        firstByte(all);
        wrongNumbers(all);
        noRoom(all);
        tooEarly(all);
    }

    /** Asks for the fault, which is NONE just when the text can be laid; neither changes anything. */
    private static void fault(Check c, Supplier<BridgeRounds> map, String text, int wanted) {
        Supplier<BridgeRounds> typed = () -> Fixtures.withText(map.get(), text);
        c.still("textFault() of '" + text + "'", typed, x -> x.textFault(), wanted);
        if (wanted != NONE) {
            c.still("lay() of '" + text + "'", typed, x -> x.lay(), BAD_STATE);
        } else {
            c.due("lay() of '" + text + "'", typed.get().lay() > 0 ? 1 : 0, 1);
        }
    }

    /** With the towns 0 to 4. */
    private static void fault(Check c, String text, int wanted) {
        fault(c, () -> Fixtures.towns(5), text, wanted);
    }

    /** Asks for the parts of the only road that the text lays on a map of ten towns. */
    private static void lays(Check c, String text, int one, int other, int length, int bridge) {
        BridgeRounds x = Fixtures.withText(Fixtures.towns(10), text);
        c.due("lay() of '" + text + "'", x.lay(), 1);
        c.due("'" + text + "', its first town", x.road(0, 0), one);
        c.due("'" + text + "', its other town", x.road(0, 1), other);
        c.due("'" + text + "', its length", x.road(0, 2), length);
        c.due("'" + text + "', its bridge", x.road(0, 3), bridge);
    }

    private static void grammar(Sentences all) {
        all.description(32, "Roads can be given by a text of at most 100 bytes with this grammar:", c -> {
            BridgeRounds x = Fixtures.withText(Fixtures.towns(2), "0-1:10;".repeat(13) + "00-01:02b");
            c.due("100 bytes", x.textFault(), NONE);
            c.due("no more bytes", x.type(32), FULL);
            c.due("all of its roads", x.lay(), 14);
            c.due("the last byte is the bridge", x.road(13, 3), 0);
        });
        all.description(34, "list = road { \";\" road }", c -> {
            fault(c, "0-1:5", NONE);
            fault(c, "0-1:5;2-3:4", NONE);
            fault(c, "0-1:5;2-3:4;1-4:7", NONE);
            fault(c, "", 0);
            fault(c, ";", 0);
            fault(c, ";0-1:5", 0);
            fault(c, "0-1:5;", 6);
            fault(c, "0-1:5;;2-3:4", 6);
            fault(c, "0-1:5,2-3:4", 5);
        });
        all.description(34, "road = number \"-\" number \":\" number [ \"b\" ]", c -> {
            fault(c, "0-1:5", NONE);
            fault(c, "0-1:5b", NONE);
            fault(c, "0-1:5bb", 6);
            fault(c, "0-1:5B", 5);
            fault(c, "-1:5", 0);
            fault(c, "0:1-5", 1);
            fault(c, "0-:5", 2);
            fault(c, "0-1-5", 3);
            fault(c, "0-1:b", 4);
            fault(c, "b0-1:5", 0);
            fault(c, "0b-1:5", 1);
            fault(c, "0-1b:5", 3);
        });
        all.description(35, "with the towns, the length, and \"b\" for a bridge on it.", c -> {
            lays(c, "3-8:41", 3, 8, 41, NONE);
            lays(c, "9-0:99b", 9, 0, 99, 0);
        });
    }

    private static void numbers(Sentences all) {
        all.description(34, "Numbers have 1 or 2 digits (05 is 5).", c -> {
            lays(c, "5-6:7", 5, 6, 7, NONE);
            lays(c, "05-06:07", 5, 6, 7, NONE);
            lays(c, "00-1:10", 0, 1, 10, NONE);
            lays(c, "0-01:01b", 0, 1, 1, 0);
            fault(c, "005-6:7", 0);
        });
    }

    private static void blanks(Sentences all) {
        all.description(34, "Blanks (32) may stand anywhere except within numbers", c -> {
            String text = "01-2:34b;0-3:5";
            for (int at = 0; at <= text.length(); at++) {
                boolean within = at == 1 || at == 6;
                String blank = text.substring(0, at) + " " + text.substring(at);
                if (!within) {
                    fault(c, blank, NONE);
                    fault(c, text.substring(0, at) + "   " + text.substring(at), NONE);
                    fault(c, text.substring(0, at) + "\t" + text.substring(at), at);
                }
            }
            lays(c, "  1  -  2  :  34  b  ", 1, 2, 34, 0);
        });
        all.description(34, "(a blank ends a number).", c -> {
            fault(c, "0 1-2:34", 2);
            fault(c, "0-1 2:34", 4);
            fault(c, "0-1:3 4", 6);
            fault(c, "0-1:3  45", 7);
            fault(c, "0-1:0 5", 4);
            lays(c, "0-1:3 b", 0, 1, 3, 0);
        });
    }

    private static void firstByte(Sentences all) {
        all.description(34, "The fault of the text is the position, from 0, of the first byte that is not allowed at its place", c -> {
            String text = "3-4:99b;0-1:5";
            for (int at = 0; at < text.length(); at++) {
                for (char wrong : new char[] {0, '\n', '!', ',', '/', '<', 'a', 'c', 128 + 32, 255}) {
                    fault(c, text.substring(0, at) + wrong + text.substring(at + 1), at);
                }
            }
            fault(c, "xx", 0);
            fault(c, "0-1:5x;0-1:5x", 5);
            fault(c, "0-1:5b7", 6);
            fault(c, "0-1:5;-", 6);
            fault(c, " ".repeat(99) + "x", 99);
        });
    }

    private static void wrongNumbers(Sentences all) {
        all.description(34, "(for a number that is out of its range,", c -> {
            fault(c, "0-1:0", 4);
            fault(c, "0-1:00", 4);
            fault(c, "0-1:1", NONE);
            fault(c, "0-1:01", NONE);
            fault(c, "0-1:99", NONE);
            fault(c, "0-1:100", 4);
            fault(c, "2-3:7;0-1:0b", 10);
        });
        all.description(34, "names no town,", c -> {
            fault(c, "4-0:5", NONE);
            fault(c, "5-0:5", 0);
            fault(c, "0-4:5", NONE);
            fault(c, "0-5:5", 2);
            fault(c, "0-05:5", 2);
            fault(c, "0-1:5;5-0:5", 6);
            fault(c, () -> Fixtures.towns(10), "9-8:5", NONE);
            fault(c, () -> Fixtures.towns(10), "10-8:5", 0);
            fault(c, () -> Fixtures.towns(10), "8-10:5", 2);
            fault(c, () -> Fixtures.towns(1), "0-1:5", 2);
            fault(c, BridgeRounds::new, "0-1:5", 0);
        });
        all.description(34, "has more than two digits,", c -> {
            fault(c, "001-2:5", 0);
            fault(c, "1-002:5", 2);
            fault(c, "1-2:005", 4);
            fault(c, "1-2:0000000005", 4);
            // In 32 bits these would be 1, 2 and 5.
            fault(c, "4294967297-2:5", 0);
            fault(c, "1-4294967298:5", 2);
            fault(c, "1-2:4294967301", 4);
            fault(c, "1-2:" + "9".repeat(96), 4);
        });
        all.description(34, "or is the second town of a road and the same as the first one,", c -> {
            fault(c, "0-0:5", 2);
            fault(c, "4-4:5", 2);
            fault(c, "04-4:5", 3);
            fault(c, "4-04:5", 2);
            fault(c, "1-2:1", NONE);
            fault(c, "1-2:2", NONE);
            fault(c, "1-2:3;2-1:3", NONE);
            fault(c, "1-2:3;2-2:3", 8);
        });
        all.description(34, "its first digit, whatever follows,", c -> {
            fault(c, "7x", 0);
            fault(c, "  7-x", 2);
            fault(c, "0-7x", 2);
            fault(c, "1-1x", 2);
            fault(c, "1 - 01 x", 4);
            fault(c, "0-1:0x", 4);
            fault(c, "0-1: 100x", 5);
            fault(c, "99-99:999", 0);
        });
        all.description(34, "also at the end of the text;", c -> {
            fault(c, "7", 0);
            fault(c, "123", 0);
            fault(c, "0-7", 2);
            fault(c, "1-1", 2);
            fault(c, "0-1:0", 4);
            fault(c, "0-1:0  ", 4);
            fault(c, "0-1:123", 4);
            fault(c, "0".repeat(100), 0);
        });
    }

    private static void noRoom(Sentences all) {
        Supplier<BridgeRounds> full = () -> Fixtures.roads(5, 20);
        Supplier<BridgeRounds> two = () -> Fixtures.roads(5, 18);
        Supplier<BridgeRounds> sixBridges = () -> Fixtures.bridges(6);
        all.description(34, "for a road,", c -> {
            fault(c, full, "0-1:5", 0);
            fault(c, () -> Fixtures.roads(5, 19), "0-1:5", NONE);
            fault(c, () -> Fixtures.roads(5, 19), "0-1:5;0-1:5", 6);
        });
        all.description(34, "or a \"b\", for which there is no room,", c -> {
            fault(c, sixBridges, "0-1:5", NONE);
            fault(c, sixBridges, "0-1:5b", 5);
            fault(c, () -> Fixtures.bridges(5), "0-1:5b", NONE);
            fault(c, () -> Fixtures.bridges(5), "0-1:5b;0-1:5b", 12);
        });
        all.description(34, "what is there and the items before included,", c -> {
            fault(c, two, "0-1:5;0-1:5", NONE);
            fault(c, two, "0-1:5;0-1:5;0-1:5", 12);
            fault(c, () -> Fixtures.roads(5, 4), "0-1:5;".repeat(15) + "0-1:5", NONE);
            fault(c, () -> Fixtures.roads(5, 5), "0-1:5;".repeat(15) + "0-1:5", 90);
            fault(c, () -> Fixtures.bridges(4), "0-1:5b;0-1:5;0-1:5b", NONE);
            fault(c, () -> Fixtures.bridges(4), "0-1:5b;0-1:5;0-1:5b;0-1:5b", 25);
            fault(c, "0-1:5b;0-1:5b;0-1:5b;0-1:5b;0-1:5b;0-1:5b", NONE);
            fault(c, "0-1:5b;0-1:5b;0-1:5b;0-1:5b;0-1:5b;0-1:5b;0-1:5b", 47);
            BridgeRounds x = Fixtures.withText(Fixtures.roads(5, 19), "0-1:5");
            c.due("room for one", x.lay(), 20);
            c.due("the same text again", x.textFault(), 0);
            x.undo();
            c.due("room again", x.textFault(), NONE);
        });
        all.description(34, "the first byte of the road that is no blank,", c -> {
            fault(c, full, "   0-1:5", 3);
            fault(c, two, "0-1:5;0-1:5;  0-1:5", 14);
            fault(c, two, "0-1:5;0-1:5 ; 9-9:0", 14);
            fault(c, two, "0-1:5;0-1:5;-", 12);
        });
        all.description(34, "or this \"b\"),", c -> {
            fault(c, sixBridges, "0-1:5   b", 8);
            fault(c, sixBridges, "0-1:5bx", 5);
            fault(c, sixBridges, "0-1:5;0-1:55b;0-1:5b", 12);
            // Neither a road nor a bridge has room: the road comes first.
            Supplier<BridgeRounds> both = () -> Fixtures.withText(Fixtures.towns(5), "");
            fault(c, () -> {
                BridgeRounds x = both.get();
                for (int road = 0; road < 20; road++) {
                    x.addRoad(0, 1, 5);
                }
                for (int bridge = 0; bridge < 6; bridge++) {
                    x.addBridge(bridge);
                }
                return x;
            }, " 0-1:5b", 1);
        });
    }

    private static void tooEarly(Sentences all) {
        all.description(34, "or its length with all blanks, if it ends too early", c -> {
            String text = "3-4:99b;0-1:5";
            for (int length = 1; length < text.length(); length++) {
                boolean whole = 5 <= length && length <= 7;
                fault(c, text.substring(0, length), whole ? NONE : length);
                fault(c, text.substring(0, length) + "  ", whole ? NONE : length + 2);
            }
            fault(c, " 3 - ", 5);
            fault(c, "0-1:5;" + " ".repeat(94), 100);
            // With no room for one more road, there must be one behind the ";" all the same.
            fault(c, () -> Fixtures.roads(5, 19), "0-1:5; ", 7);
        });
        all.description(34, "(also if it is empty).", c -> {
            fault(c, "", 0);
            fault(c, BridgeRounds::new, "", 0);
            fault(c, "   ", 3);
            fault(c, " ".repeat(100), 100);
            fault(c, () -> Fixtures.roads(5, 20), "", 0);
            fault(c, () -> Fixtures.roads(5, 20), "  ", 2);
            BridgeRounds x = Fixtures.withText(Fixtures.towns(5), "0-1:5");
            x.clearText();
            c.due("empty again", x.textFault(), 0);
        });
    }
}
