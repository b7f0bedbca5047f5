/** Promises 19 to 22: ways, detours and loads. */
final class WaysTest {
    private static final int NONE = BridgeRounds.NONE;
    private static final int BAD_INDEX = BridgeRounds.BAD_INDEX;
    private static final int BAD_VALUE = BridgeRounds.BAD_VALUE;
    private static final int BAD_STATE = BridgeRounds.BAD_STATE;
    private static final int MIN = Integer.MIN_VALUE;
    private static final int MAX = Integer.MAX_VALUE;
    private static final int[] POSTS = {0, 3, 3, 7, 12, 20, 28, 40, 60, 60};

    private static final Check CHECK = new Check("WaysTest");

    public static void main(String[] args) {
        errors();
        way();
        posts();
        wayTown();
        detour();
        heaviest();
        CHECK.end();
    }

    private static void errors() {
        for (int town : new int[] {-1, 5, 10, MIN, MAX}) {
            CHECK.still("way from " + town, Fixtures::ring, x -> x.way(town, 0, 61), BAD_INDEX);
            CHECK.still("way to " + town, Fixtures::ring, x -> x.way(0, town, 61), BAD_INDEX);
            CHECK.still("wayTown from " + town, Fixtures::ring, x -> x.wayTown(town, 0, 61, -1), BAD_INDEX);
            CHECK.still("wayTown to " + town, Fixtures::ring, x -> x.wayTown(0, town, 61, -1), BAD_INDEX);
            CHECK.still("heaviest from " + town, Fixtures::ring, x -> x.heaviest(town, 0), BAD_INDEX);
            CHECK.still("heaviest to " + town, Fixtures::ring, x -> x.heaviest(0, town), BAD_INDEX);
            CHECK.still("heaviest to itself, " + town, Fixtures::ring, x -> x.heaviest(town, town), BAD_INDEX);
        }
        for (int weight : new int[] {0, 61, -1, MIN, MAX}) {
            CHECK.still("way with " + weight, Fixtures::ring, x -> x.way(0, 1, weight), BAD_VALUE);
            CHECK.still("way to itself with " + weight, Fixtures::ring, x -> x.way(1, 1, weight), BAD_VALUE);
            CHECK.still("wayTown with " + weight, Fixtures::ring, x -> x.wayTown(0, 1, weight, 0), BAD_VALUE);
            CHECK.still("detour with " + weight, Fixtures::ring, x -> x.detour(0, weight), BAD_VALUE);
        }
        for (int index : new int[] {-1, -2, MIN}) {
            CHECK.still("wayTown, index " + index, Fixtures::ring, x -> x.wayTown(0, 1, 1, index), BAD_VALUE);
            CHECK.still("wayTown without a way, index " + index, Fixtures::ring, x -> x.wayTown(0, 4, 1, index), BAD_VALUE);
        }
        for (int bridge : new int[] {-1, 1, 6, MIN, MAX}) {
            CHECK.still("detour(" + bridge + ", 0)", Fixtures::ring, x -> x.detour(bridge, 0), BAD_INDEX);
        }
        for (int town = 0; town < 5; town++) {
            int same = town;
            CHECK.still("heaviest to itself", Fixtures::ring, x -> x.heaviest(same, same), BAD_STATE);
        }
    }

    // Promise 19
    private static void way() {
        CHECK.still("way(0, 2, 20)", Fixtures::ring, x -> x.way(0, 2, 20), 20);
        CHECK.still("way(0, 2, 21)", Fixtures::ring, x -> x.way(0, 2, 21), 55);
        CHECK.still("way(2, 0, 21)", Fixtures::ring, x -> x.way(2, 0, 21), 55);
        CHECK.still("way(2, 0, 1)", Fixtures::ring, x -> x.way(2, 0, 1), 20);
        CHECK.still("way(1, 2, 60)", Fixtures::ring, x -> x.way(1, 2, 60), 65);
        CHECK.still("way(0, 4, 1)", Fixtures::ring, x -> x.way(0, 4, 1), NONE);
        CHECK.still("way(4, 4, 60)", Fixtures::ring, x -> x.way(4, 4, 60), 0);
        CHECK.still("way(1, 1, 60)", Fixtures::ring, x -> x.way(1, 1, 60), 0);
        BridgeRounds closed = Fixtures.ring();
        closed.close(0, true);
        CHECK.due("not over a closed bridge", closed.way(1, 2, 1), 65);
        // The longest way there is, with roads added from its end on.
        BridgeRounds line = Fixtures.towns(10);
        for (int town = 8; town >= 0; town--) {
            line.addRoad(town, town + 1, 99);
        }
        CHECK.due("along all towns", line.way(0, 9, 60), 891);
        CHECK.due("and back", line.way(9, 0, 60), 891);
        line.addRoad(9, 4, 98);
        CHECK.due("by the shorter road", line.way(0, 9, 60), 4 * 99 + 98);
        line.addRoad(4, 9, 97);
        CHECK.due("by the shortest of three", line.way(9, 0, 60), 4 * 99 + 97);
        CHECK.due("the town numbers play no part", line.way(8, 3, 60), 99 + 97 + 99);
    }

    private static void posts() {
        for (int rating = 0; rating <= 9; rating++) {
            BridgeRounds x = Fixtures.towns(2);
            x.addRoad(1, 0, 7);
            Fixtures.bridgeOf(x, 0, rating);
            for (int weight = 1; weight <= 60; weight++) {
                int due = weight <= POSTS[rating] ? 7 : NONE;
                CHECK.due("rating " + rating + ": way(0, 1, " + weight + ")", x.way(0, 1, weight), due);
            }
            CHECK.due("rating " + rating + ": heaviest(0, 1)", x.heaviest(0, 1), rating == 0 ? NONE : POSTS[rating]);
            x.setRating(0, 0, 0);
            CHECK.due("told counts, not true", x.heaviest(1, 0), rating == 0 ? NONE : POSTS[rating]);
        }
    }

    private static void towns(String what, BridgeRounds x, int weight, int... due) {
        int from = due[0];
        int to = due[due.length - 1];
        for (int index = 0; index < due.length; index++) {
            CHECK.due(what + ", place " + index, x.wayTown(from, to, weight, index), due[index]);
        }
        CHECK.due(what + ", the end", x.wayTown(from, to, weight, due.length), NONE);
        CHECK.due(what + ", far behind the end", x.wayTown(from, to, weight, MAX), NONE);
    }

    // Promise 20
    private static void wayTown() {
        CHECK.still("wayTown(0, 2, 20, 1)", Fixtures::ring, x -> x.wayTown(0, 2, 20, 1), 1);
        CHECK.still("wayTown(0, 4, 20, 0)", Fixtures::ring, x -> x.wayTown(0, 4, 20, 0), NONE);
        towns("a light one", Fixtures.ring(), 20, 0, 1, 2);
        towns("a heavy one", Fixtures.ring(), 21, 0, 3, 2);
        towns("back", Fixtures.ring(), 21, 1, 0, 3, 2);
        towns("at one place", Fixtures.ring(), 60, 4);
        BridgeRounds line = Fixtures.towns(10);
        for (int town = 0; town < 9; town++) {
            line.addRoad(town + 1, town, 9);
        }
        towns("all towns", line, 60, 0, 1, 2, 3, 4, 5, 6, 7, 8, 9);
        towns("all towns, back", line, 60, 9, 8, 7, 6, 5, 4, 3, 2, 1, 0);
        // Two ways as short, by 1, 4 or by 2, 3: ahead of the end stands 3, though 1 is lower at the start.
        BridgeRounds x = Fixtures.towns(6);
        x.addRoad(0, 1, 5);
        x.addRoad(1, 4, 5);
        x.addRoad(4, 5, 5);
        x.addRoad(0, 2, 5);
        x.addRoad(2, 3, 5);
        x.addRoad(3, 5, 5);
        towns("the lower one from the end", x, 1, 0, 2, 3, 5);
        towns("and back", x, 1, 5, 4, 1, 0);
        // The lower town is on a longer road, but on a way as short.
        BridgeRounds y = Fixtures.towns(4);
        y.addRoad(3, 2, 1);
        y.addRoad(2, 0, 9);
        y.addRoad(1, 0, 1);
        y.addRoad(1, 3, 9);
        towns("a longer last road", y, 1, 0, 1, 3);
        y.addRoad(0, 3, 10);
        towns("the start itself is the lowest", y, 1, 0, 3);
        // A lower town that is nearer to the end, but not on a shortest way.
        BridgeRounds z = Fixtures.towns(3);
        z.addRoad(2, 0, 30);
        z.addRoad(1, 0, 2);
        z.addRoad(2, 1, 29);
        towns("not on the shortest way", z, 1, 2, 0);
        // Ties only over roads that the vehicle can use.
        BridgeRounds w = Fixtures.towns(4);
        w.addRoad(0, 1, 5);
        w.addRoad(1, 3, 5);
        w.addRoad(0, 2, 5);
        w.addRoad(2, 3, 5);
        Fixtures.bridgeOf(w, 1, 3);
        towns("over the bridge", w, 7, 0, 1, 3);
        towns("around the bridge", w, 8, 0, 2, 3);
    }

    // Promise 21
    private static void detour() {
        CHECK.still("detour(0, 1)", Fixtures::ring, x -> x.detour(0, 1), 1055);
        CHECK.still("detour(0, 60)", Fixtures::ring, x -> x.detour(0, 60), 1055);
        BridgeRounds x = Fixtures.towns(3);
        x.addRoad(0, 1, 99);
        x.addBridge(0);
        CHECK.due("no other way", x.detour(0, 1), NONE);
        x.addRoad(1, 0, 99);
        CHECK.due("as long", x.detour(0, 60), 1000);
        x.addRoad(1, 0, 1);
        CHECK.due("below 0", x.detour(0, 60), 902);
        x.close(0, true);
        CHECK.due("of a closed bridge", x.detour(0, 60), 902);
        // Other bridges count by their posts.
        Fixtures.bridgeOf(x, 2, 4);
        CHECK.due("over another bridge", x.detour(0, 12), 902);
        CHECK.due("not over another bridge", x.detour(0, 13), 1000);
        Fixtures.bridgeOf(x, 1, 1);
        CHECK.due("no way for this vehicle", x.detour(0, 13), NONE);
        CHECK.due("of another bridge", x.detour(1, 3), 1098);
        CHECK.due("of another bridge, too heavy", x.detour(1, 4), NONE);
        CHECK.due("the own road is left out, not the own post", x.detour(2, 3), 1000 + 1 - 99);
        // The longest one.
        BridgeRounds line = Fixtures.towns(10);
        for (int town = 0; town < 9; town++) {
            line.addRoad(town, town + 1, 99);
        }
        line.addRoad(9, 0, 1);
        line.addBridge(9);
        CHECK.due("around all towns", line.detour(0, 60), 1000 + 891 - 1);
    }

    // Promise 22
    private static void heaviest() {
        CHECK.still("heaviest(0, 1)", Fixtures::ring, x -> x.heaviest(0, 1), 60);
        CHECK.still("heaviest(1, 2), around", Fixtures::ring, x -> x.heaviest(1, 2), 60);
        CHECK.still("heaviest(0, 4)", Fixtures::ring, x -> x.heaviest(0, 4), NONE);
        // Two ways: 40 then 7, or 20 then 12; the roads are added so that the greater load comes last.
        BridgeRounds x = Fixtures.towns(5);
        x.addRoad(3, 4, 10);
        x.addRoad(2, 3, 10);
        x.addRoad(0, 2, 99);
        x.addRoad(1, 3, 1);
        x.addRoad(0, 1, 1);
        Fixtures.bridgeOf(x, 1, 4);
        Fixtures.bridgeOf(x, 2, 5);
        Fixtures.bridgeOf(x, 3, 3);
        Fixtures.bridgeOf(x, 4, 7);
        CHECK.due("the heavier way, though longer", x.heaviest(0, 4), 12);
        CHECK.due("back", x.heaviest(4, 0), 12);
        CHECK.due("on the first roads", x.heaviest(1, 2), 20);
        x.close(1, true);
        CHECK.due("one is closed", x.heaviest(0, 4), 7);
        x.close(3, true);
        CHECK.due("closed off", x.heaviest(0, 3), NONE);
        CHECK.due("behind it", x.heaviest(3, 4), 60);
        // A long line in both directions, whichever town of a road was told first.
        for (int told = 0; told < 2; told++) {
            BridgeRounds line = Fixtures.towns(10);
            for (int town = 0; town < 9; town++) {
                line.addRoad(town + told, town + 1 - told, 9);
            }
            CHECK.due("along the line", line.heaviest(0, 9), 60);
            CHECK.due("back along the line", line.heaviest(9, 0), 60);
            Fixtures.bridgeOf(line, 5, 6);
            CHECK.due("along the line, over a bridge", line.heaviest(0, 9), 28);
            CHECK.due("back along the line, over a bridge", line.heaviest(9, 0), 28);
        }
        BridgeRounds most = Fixtures.roads(9, 20);
        CHECK.due("with all roads", most.heaviest(0, 8), 60);
        CHECK.due("with all roads", most.way(0, 4, 60), 11 + 12 + 13 + 14);
    }
}
