/** The sentences of promises 19 to 22: ways, detours and loads. */
final class WaySentences {
    private static final int NONE = BridgeRounds.NONE;
    private static final int BAD_INDEX = BridgeRounds.BAD_INDEX;
    private static final int BAD_VALUE = BridgeRounds.BAD_VALUE;
    private static final int BAD_STATE = BridgeRounds.BAD_STATE;

    private WaySentences() {
    }

    static void tests(Sentences all) {
        way(all);
        wayTown(all);
        wayTownRefused(all);
        detour(all);
        heaviest(all);
    }

    /** Twenty roads: two between each two neighbours in a line, from its end on, and two around; the last one is best. */
    private static BridgeRounds lastRoad() {
        BridgeRounds x = Fixtures.towns(10);
        for (int town = 8; town >= 0; town--) {
            x.addRoad(town, town + 1, 50);
            x.addRoad(town + 1, town, 2);
        }
        x.addRoad(0, 9, 19);
        x.addRoad(9, 0, 17);
        return x;
    }

    private static void way(Sentences all) {
        all.promise(19, "Returns the length of the way of a vehicle.", c -> {
            c.still("a light one", Fixtures::ring, x -> x.way(0, 2, 20), 20);
            c.still("a heavy one", Fixtures::ring, x -> x.way(0, 2, 21), 55);
        });
        all.promise(19, "`from`: a town", c -> {
            c.still("the first town", Fixtures::longLine, x -> x.way(0, 5, 60), 495);
            c.still("the last town", Fixtures::longLine, x -> x.way(9, 5, 60), 396);
        });
        all.promise(19, "`to`: a town", c -> {
            c.still("the first town", Fixtures::longLine, x -> x.way(5, 0, 60), 495);
            c.still("the last town", Fixtures::longLine, x -> x.way(5, 9, 60), 396);
        });
        all.promise(19, "`weight`: 1 to 60", c -> {
            c.still("1", Fixtures::ring, x -> x.way(1, 2, 1), 10);
            c.still("60", Fixtures::ring, x -> x.way(1, 2, 60), 65);
        });
        all.promise(19, "Returns the length;", c -> {
            c.still("the longest one", Fixtures::longLine, x -> x.way(0, 9, 60), 891);
            c.still("the shortest one", Fixtures::longLine, x -> x.way(7, 7, 60), 0);
            c.still("with twenty roads, one of them the last", WaySentences::lastRoad, x -> x.way(0, 9, 60), 17);
            c.still("with twenty roads, back", WaySentences::lastRoad, x -> x.way(9, 0, 60), 17);
        });
        all.promise(19, "NONE if there is no way;", c -> {
            c.still("no road", Fixtures::ring, x -> x.way(0, 4, 1), NONE);
            c.still("no road, back", Fixtures::ring, x -> x.way(4, 0, 1), NONE);
            c.still("no roads at all", () -> Fixtures.towns(2), x -> x.way(0, 1, 1), NONE);
            BridgeRounds x = Fixtures.towns(2);
            x.addRoad(0, 1, 5);
            Fixtures.bridgeOf(x, 0, 4);
            c.due("up to the post", x.way(0, 1, 12), 5);
            c.due("too heavy", x.way(0, 1, 13), NONE);
        });
        all.promise(19, "BAD_INDEX if there is no such town (either one);", c -> {
            for (int town : Fixtures.outside(0, 4)) {
                c.still("from " + town, Fixtures::ring, x -> x.way(town, 0, 5), BAD_INDEX);
                c.still("to " + town, Fixtures::ring, x -> x.way(0, town, 5), BAD_INDEX);
                c.still("both " + town, Fixtures::ring, x -> x.way(town, town, 5), BAD_INDEX);
            }
            c.still("no towns", BridgeRounds::new, x -> x.way(0, 0, 5), BAD_INDEX);
        });
        all.promise(19, "BAD_VALUE if weight is out of range.", c -> {
            for (int weight : Fixtures.outside(1, 60)) {
                c.still("way(0, 1, " + weight + ")", Fixtures::ring, x -> x.way(0, 1, weight), BAD_VALUE);
                c.still("way(1, 1, " + weight + ")", Fixtures::ring, x -> x.way(1, 1, weight), BAD_VALUE);
            }
        });
    }

    private static void wayTown(Sentences all) {
        all.promise(20, "Returns a town of the way of a vehicle.", c -> {
            c.still("a light one", Fixtures::ring, x -> x.wayTown(0, 2, 20, 1), 1);
            c.still("a heavy one", Fixtures::ring, x -> x.wayTown(0, 2, 21, 1), 3);
        });
        all.promise(20, "`from`: a town", c -> {
            c.still("the first town", Fixtures::longLine, x -> x.wayTown(0, 5, 60, 1), 1);
            c.still("the last town", Fixtures::longLine, x -> x.wayTown(9, 5, 60, 1), 8);
        });
        all.promise(20, "`to`: a town", c -> {
            c.still("the first town", Fixtures::longLine, x -> x.wayTown(2, 0, 60, 2), 0);
            c.still("the last town", Fixtures::longLine, x -> x.wayTown(7, 9, 60, 2), 9);
        });
        all.promise(20, "`weight`: 1 to 60", c -> {
            c.still("1", Fixtures::ring, x -> x.wayTown(1, 2, 1, 1), 2);
            c.still("60", Fixtures::ring, x -> x.wayTown(1, 2, 60, 1), 0);
        });
        all.promise(20, "`index`: its place in the way, 0 for from", c -> {
            for (int index = 0; index <= 9; index++) {
                int place = index;
                c.still("place " + place, Fixtures::longLine, x -> x.wayTown(0, 9, 60, place), place);
                c.still("place " + place + ", back", Fixtures::longLine, x -> x.wayTown(9, 0, 60, place), 9 - place);
            }
        });
        all.promise(20, "Returns the town;", c -> {
            c.still("the start", Fixtures::ring, x -> x.wayTown(3, 1, 60, 0), 3);
            c.still("the end", Fixtures::ring, x -> x.wayTown(3, 1, 60, 2), 1);
            c.still("start and end", Fixtures::ring, x -> x.wayTown(4, 4, 60, 0), 4);
        });
    }

    private static void wayTownRefused(Sentences all) {
        all.promise(20, "NONE if there is no way, or it has not so many;", c -> {
            c.still("no way, 0", Fixtures::ring, x -> x.wayTown(0, 4, 1, 0), NONE);
            c.still("no way, 1", Fixtures::ring, x -> x.wayTown(4, 0, 1, 1), NONE);
            c.still("behind the end", Fixtures::ring, x -> x.wayTown(0, 2, 20, 3), NONE);
            c.still("behind the end of all ten", Fixtures::longLine, x -> x.wayTown(0, 9, 60, 10), NONE);
            c.still("behind start and end", Fixtures::ring, x -> x.wayTown(4, 4, 60, 1), NONE);
            c.still("the greatest index", Fixtures::ring, x -> x.wayTown(0, 2, 20, Integer.MAX_VALUE), NONE);
        });
        all.promise(20, "BAD_INDEX if there is no such town (either one);", c -> {
            for (int town : Fixtures.outside(0, 4)) {
                c.still("from " + town, Fixtures::ring, x -> x.wayTown(town, 0, 5, 0), BAD_INDEX);
                c.still("to " + town, Fixtures::ring, x -> x.wayTown(0, town, 5, 0), BAD_INDEX);
            }
        });
        all.promise(20, "BAD_VALUE if weight is out of range, or index is negative.", c -> {
            for (int weight : Fixtures.outside(1, 60)) {
                c.still("weight " + weight, Fixtures::ring, x -> x.wayTown(0, 1, weight, 0), BAD_VALUE);
            }
            c.still("index -1", Fixtures::ring, x -> x.wayTown(0, 1, 5, -1), BAD_VALUE);
            c.still("index -1, no way", Fixtures::ring, x -> x.wayTown(0, 4, 5, -1), BAD_VALUE);
            c.still("the least index", Fixtures::ring, x -> x.wayTown(0, 1, 5, Integer.MIN_VALUE), BAD_VALUE);
        });
    }

    private static void detour(Sentences all) {
        all.promise(21, "Returns the detour of a bridge for a vehicle.", c ->
            c.still("detour(0, 20)", Fixtures::ring, x -> x.detour(0, 20), 1055));
        all.promise(21, "`bridge`: its number", c -> {
            BridgeRounds x = Fixtures.bridges(6);
            for (int bridge = 0; bridge < 6; bridge++) {
                x.addRoad(bridge % 4, (bridge + 1) % 4, 50 + bridge);
            }
            c.due("the first one", x.detour(0, 60), 1000 + 50 - 11);
            c.due("the last one", x.detour(5, 60), 1000 + 51 - 16);
        });
        all.promise(21, "`weight`: 1 to 60", c -> {
            c.still("1", Fixtures::ring, x -> x.detour(0, 1), 1055);
            c.still("60", Fixtures::ring, x -> x.detour(0, 60), 1055);
        });
        all.promise(21, "Returns 1000 plus the detour;", c -> {
            BridgeRounds x = Fixtures.towns(2);
            x.addRoad(0, 1, 50);
            x.addBridge(0);
            x.addRoad(1, 0, 51);
            c.due("1", x.detour(0, 5), 1001);
            x.addRoad(1, 0, 50);
            c.due("0", x.detour(0, 5), 1000);
            x.addRoad(0, 1, 49);
            c.due("-1", x.detour(0, 5), 999);
        });
        all.promise(21, "NONE if there is no such way;", c -> {
            BridgeRounds x = Fixtures.towns(3);
            x.addRoad(0, 1, 50);
            Fixtures.bridgeOf(x, 0, 9);
            c.due("its own road alone", x.detour(0, 1), NONE);
            x.addRoad(0, 1, 60);
            Fixtures.bridgeOf(x, 1, 3);
            c.due("over another bridge", x.detour(0, 7), 1010);
            c.due("too heavy for it", x.detour(0, 8), NONE);
        });
        all.promise(21, "BAD_INDEX if there is no such bridge;", c -> {
            for (int bridge : Fixtures.outside(0, 0)) {
                c.still("detour(" + bridge + ", 5)", Fixtures::ring, x -> x.detour(bridge, 5), BAD_INDEX);
            }
            c.still("no bridges", () -> Fixtures.bridges(0), x -> x.detour(0, 5), BAD_INDEX);
        });
        all.promise(21, "BAD_VALUE if weight is out of range.", c -> {
            for (int weight : Fixtures.outside(1, 60)) {
                c.still("detour(0, " + weight + ")", Fixtures::ring, x -> x.detour(0, weight), BAD_VALUE);
            }
        });
    }

    /** A load along all ten towns, whichever road and whichever of its towns comes first. */
    private static void inLine(Check c) {
        for (int turn = 0; turn < 4; turn++) {
            BridgeRounds x = Fixtures.towns(10);
            int told = turn % 2;
            for (int i = 0; i < 9; i++) {
                int town = turn < 2 ? i : 8 - i;
                x.addRoad(town + told, town + 1 - told, 9);
            }
            Fixtures.bridgeOf(x, 3, 6);
            c.due("along all towns", x.heaviest(0, 9), 28);
            c.due("along all towns, back", x.heaviest(9, 0), 28);
            c.due("along a part", x.heaviest(0, 3), 60);
        }
    }

    private static void heaviest(Sentences all) {
        all.promise(22, "Returns the greatest weight of a vehicle that has a way.", c -> {
            BridgeRounds x = Fixtures.towns(3);
            x.addRoad(0, 1, 1);
            x.addRoad(1, 2, 1);
            x.addRoad(0, 2, 99);
            Fixtures.bridgeOf(x, 0, 8);
            Fixtures.bridgeOf(x, 1, 3);
            Fixtures.bridgeOf(x, 2, 4);
            c.due("the longer way bears more", x.heaviest(0, 2), 12);
            c.due("such a vehicle has a way", x.way(0, 2, 12), 99);
            c.due("one more has none", x.way(0, 2, 13), NONE);
            c.due("by two bridges", x.heaviest(1, 2), 12);
            x.addRoad(0, 2, 5);
            Fixtures.bridgeOf(x, 3, 1);
            c.due("one more that bears less", x.heaviest(0, 2), 12);
            c.due("one more that bears less, back", x.heaviest(2, 0), 12);
            x.close(2, true);
            c.due("the heavier one is closed", x.heaviest(0, 2), 7);
            x.close(1, true);
            c.due("the next one too", x.heaviest(0, 2), 3);
            c.due("the next one too, back", x.heaviest(2, 0), 3);
            x.close(3, true);
            c.due("all are closed", x.heaviest(0, 2), NONE);
            c.due("all are closed, back", x.heaviest(2, 0), NONE);
            c.still("with twenty roads", WaySentences::lastRoad, y -> y.heaviest(0, 9), 60);
            inLine(c);
        });
        all.promise(22, "`from`: a town", c -> {
            c.still("the first town", Fixtures::longLine, x -> x.heaviest(0, 5), 60);
            c.still("the last town", Fixtures::longLine, x -> x.heaviest(9, 5), 60);
        });
        all.promise(22, "`to`: another town", c -> {
            c.still("the first town", Fixtures::longLine, x -> x.heaviest(9, 0), 60);
            c.still("the last town", Fixtures::longLine, x -> x.heaviest(0, 9), 60);
        });
        all.promise(22, "Returns the weight, 1 to 60;", c -> {
            int[] posts = {3, 3, 7, 12, 20, 28, 40, 60, 60};
            for (int rating = 1; rating <= 9; rating++) {
                BridgeRounds x = Fixtures.towns(2);
                x.addRoad(1, 0, 9);
                Fixtures.bridgeOf(x, 0, rating);
                c.due("over a bridge that is told " + rating, x.heaviest(0, 1), posts[rating - 1]);
            }
            c.still("without a bridge", () -> Fixtures.roads(2, 1), x -> x.heaviest(0, 1), 60);
        });
        all.promise(22, "NONE if none has;", c -> {
            c.still("no road", Fixtures::ring, x -> x.heaviest(0, 4), NONE);
            c.still("no road, back", Fixtures::ring, x -> x.heaviest(4, 0), NONE);
            BridgeRounds x = Fixtures.towns(2);
            x.addRoad(0, 1, 9);
            Fixtures.bridgeOf(x, 0, 0);
            c.due("the post 0", x.heaviest(0, 1), NONE);
        });
        all.promise(22, "BAD_INDEX if there is no such town (either one);", c -> {
            for (int town : Fixtures.outside(0, 4)) {
                c.still("from " + town, Fixtures::ring, x -> x.heaviest(town, 0), BAD_INDEX);
                c.still("to " + town, Fixtures::ring, x -> x.heaviest(0, town), BAD_INDEX);
            }
        });
        all.promise(22, "BAD_STATE if both are the same.", c -> {
            for (int town = 0; town < 5; town++) {
                int same = town;
                c.still("both " + same, Fixtures::ring, x -> x.heaviest(same, same), BAD_STATE);
            }
        });
    }
}
