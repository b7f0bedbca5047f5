/** The sentences of the description about roads, bridges, years, inspections, posts and ways. */
final class MapDescription {
    private static final int NONE = BridgeRounds.NONE;
    private static final int BAD_INDEX = BridgeRounds.BAD_INDEX;
    private static final int BAD_VALUE = BridgeRounds.BAD_VALUE;
    private static final int BAD_STATE = BridgeRounds.BAD_STATE;
    private static final int FULL = BridgeRounds.FULL;

    private MapDescription() {
    }

    static void tests(Sentences all) {
        roads(all);
        bridges(all);
        components(all);
        strengths(all);
        years(all);
        inspections(all);
        due(all);
        posts(all);
        ways(all);
        waysBack(all);
        detours(all);
    }

    private static void roads(Sentences all) {
        all.description(2, "There are at most 10 towns, numbered from 0.", c -> {
            BridgeRounds x = Fixtures.towns(9);
            c.due("the tenth one", x.addTowns(1), 10);
            c.due("an eleventh one", x.addTowns(1), FULL);
            c.due("no town -1", x.way(-1, -1, 1), BAD_INDEX);
            for (int town = 0; town <= 9; town++) {
                c.due("the town " + town, x.way(town, town, 1), 0);
            }
            c.due("no town 10", x.way(10, 10, 1), BAD_INDEX);
        });
        all.description(3, "There are at most 20 roads, numbered from 0 in the order in which they were added:", c -> {
            BridgeRounds x = Fixtures.towns(2);
            for (int road = 0; road < 20; road++) {
                c.due("addRoad()", x.addRoad(0, 1, 99 - road), road);
            }
            c.due("one more", x.addRoad(0, 1, 99), FULL);
            for (int road = 0; road < 20; road++) {
                c.due("the length of the road " + road, x.road(road, 2), 99 - road);
            }
        });
        all.description(3, "a road joins two different towns, in both directions, and has a length, 1 to 99;", c -> {
            BridgeRounds x = Fixtures.towns(3);
            c.due("one town alone", x.addRoad(1, 1, 5), BAD_VALUE);
            x.addRoad(2, 0, 1);
            c.due("as it was told", x.way(2, 0, 60), 1);
            c.due("the other direction", x.way(0, 2, 60), 1);
            c.due("it bears all", x.heaviest(2, 0), 60);
            c.due("the other direction bears all", x.heaviest(0, 2), 60);
            c.due("a length of 99", x.addRoad(2, 1, 99), 1);
            c.due("by both", x.way(0, 1, 60), 100);
            c.due("a length of 0", x.addRoad(2, 1, 0), BAD_VALUE);
            c.due("a length of 100", x.addRoad(2, 1, 100), BAD_VALUE);
        });
        all.description(3, "several roads can join the same two.", c -> {
            BridgeRounds x = Fixtures.towns(2);
            c.due("the first one", x.addRoad(0, 1, 5), 0);
            c.due("one just like it", x.addRoad(0, 1, 5), 1);
            c.due("one back", x.addRoad(1, 0, 5), 2);
            c.due("a bridge on one of them", x.addBridge(1), 0);
            c.due("not on the other one", x.road(0, 3), NONE);
        });
    }

    private static void bridges(Sentences all) {
        all.description(4, "A road carries a bridge, or none;", c -> {
            BridgeRounds x = Fixtures.roads(4, 2);
            c.due("none", x.road(0, 3), NONE);
            x.addBridge(0);
            c.due("a bridge", x.road(0, 3), 0);
            c.due("not two of them", x.addBridge(0), BAD_STATE);
        });
        all.description(4, "there are at most 6 bridges, numbered from 0, each on a road of its own.", c -> {
            BridgeRounds x = Fixtures.roads(4, 8);
            for (int bridge = 0; bridge < 6; bridge++) {
                c.due("addBridge()", x.addBridge(7 - bridge), bridge);
                c.due("again on its road", x.addBridge(7 - bridge), BAD_STATE);
            }
            c.due("one more", x.addBridge(0), FULL);
            for (int bridge = 0; bridge < 6; bridge++) {
                c.due("the road of the bridge " + bridge, x.bridge(bridge, 0), 7 - bridge);
            }
        });
    }

    private static void components(Sentences all) {
        all.description(5, "A bridge has 1 to 6 components, numbered from 0;", c -> {
            BridgeRounds x = Fixtures.bridges(2);
            for (int component = 0; component < 6; component++) {
                c.due("addComponent()", x.addComponent(1, 0, component, 0), component);
            }
            c.due("one more", x.addComponent(1, 0, 5, 0), FULL);
            for (int component = 0; component < 6; component++) {
                c.due("the rating of the component " + component, x.component(1, component, 1), component);
            }
            c.due("no component -1", x.component(1, -1, 1), BAD_INDEX);
        });
        all.description(11, "the component 0 is the deck.", c -> {
            BridgeRounds x = Fixtures.components(2);
            x.rest(0, 1, NONE);
            c.due("the component 1 bears nothing", x.bridge(0, 2), 0);
            x.rest(0, 0, NONE);
            c.due("the component 0 does", x.bridge(0, 2), 5);
        });
        all.description(5, "A component has a kind, 0 to 3,", c -> {
            BridgeRounds x = Fixtures.bridges(1);
            c.due("-1", x.addComponent(0, -1, 5, 0), BAD_VALUE);
            c.due("4", x.addComponent(0, 4, 5, 0), BAD_VALUE);
            c.due("0", x.addComponent(0, 0, 5, 0), 0);
            c.due("3", x.addComponent(0, 3, 5, 0), 1);
        });
        all.description(5, "a rating, 0 to 9,", c -> {
            BridgeRounds x = Fixtures.bridges(1);
            c.due("-1", x.addComponent(0, 0, -1, 0), BAD_VALUE);
            c.due("10", x.addComponent(0, 0, 10, 0), BAD_VALUE);
            c.due("0", x.addComponent(0, 0, 0, 0), 0);
            c.due("9", x.addComponent(0, 0, 9, 0), 1);
        });
        all.description(5, "a wear, 0 to 99 (0 at first),", c -> {
            BridgeRounds x = Fixtures.deck(9, 1);
            c.due("at first", x.component(0, 0, 2), 0);
            Fixtures.later(x, 99);
            c.due("the greatest one", x.component(0, 0, 2), 99);
            x.pass(1);
            c.due("the next year", x.component(0, 0, 2), 0);
        });
        all.description(5, "a rate, 0 to 60,", c -> {
            BridgeRounds x = Fixtures.bridges(1);
            c.due("-1", x.addComponent(0, 0, 5, -1), BAD_VALUE);
            c.due("61", x.addComponent(0, 0, 5, 61), BAD_VALUE);
            c.due("0", x.addComponent(0, 0, 5, 0), 0);
            c.due("60", x.addComponent(0, 0, 5, 60), 1);
        });
        all.description(6, "and rests on a set of components of this bridge with higher numbers, on the ground, or on both, or on nothing (at first).", c -> {
            BridgeRounds x = Fixtures.components(6);
            x.addComponent(1, 0, 9, 0);
            c.due("nothing at first", x.component(0, 2, 5), 0);
            x.rest(0, 2, 3);
            x.rest(0, 2, 5);
            c.due("a set", x.component(0, 2, 5), 8 + 32);
            x.rest(0, 2, NONE);
            c.due("and the ground", x.component(0, 2, 5), 8 + 32 + 64);
            x.rest(0, 2, 3);
            x.rest(0, 2, 5);
            c.due("the ground alone", x.component(0, 2, 5), 64);
            x.rest(0, 2, NONE);
            c.due("nothing again", x.component(0, 2, 5), 0);
            c.due("not on a lower one", x.rest(0, 2, 1), BAD_VALUE);
            c.due("the other bridge is as it was", x.component(1, 0, 5), 0);
        });
    }

    private static void strengths(Sentences all) {
        all.description(12, "The strength of a component is the smaller one of its rating and the greatest strength of what it rests on:", c -> {
            BridgeRounds x = Fixtures.bridges(1);
            int[] ratings = {6, 4, 7};
            for (int rating : ratings) {
                x.addComponent(0, 0, rating, 0);
            }
            x.rest(0, 1, NONE);
            x.rest(0, 2, NONE);
            x.rest(0, 0, 1);
            c.due("what it rests on is less", x.component(0, 0, 4), 4);
            x.rest(0, 0, 2);
            c.due("its rating is less than the greatest one", x.component(0, 0, 4), 6);
            x.setRating(0, 2, 5);
            c.due("the greatest one is less", x.component(0, 0, 4), 5);
            x.setRating(0, 2, 3);
            c.due("the greatest one is the other one", x.component(0, 0, 4), 4);
        });
        all.description(12, "9 for the ground,", c -> {
            for (int rating = 0; rating <= 9; rating++) {
                c.due("a rating of " + rating, Fixtures.deck(rating, 0).component(0, 0, 4), rating);
            }
        });
        all.description(12, "the strength of a component for a component;", c -> {
            BridgeRounds x = Fixtures.components(3);
            x.rest(0, 0, 1);
            x.rest(0, 1, 2);
            x.setRating(0, 1, 9);
            x.rest(0, 2, NONE);
            x.setRating(0, 2, 3);
            c.due("not its rating", x.component(0, 0, 4), 3);
        });
        all.description(12, "0 if it rests on nothing.", c -> {
            BridgeRounds x = Fixtures.bridges(1);
            x.addComponent(0, 0, 9, 0);
            x.addComponent(0, 0, 9, 0);
            c.due("the first one", x.component(0, 0, 4), 0);
            x.rest(0, 0, 1);
            c.due("on one that rests on nothing", x.component(0, 0, 4), 0);
        });
        all.description(11, "The true rating of a bridge is the strength of its deck", c -> {
            c.still("the true rating", Fixtures::frame, x -> x.bridge(0, 2), 7);
            c.still("the strength of the deck", Fixtures::frame, x -> x.component(0, 0, 4), 7);
            c.still("the rating of the deck", Fixtures::frame, x -> x.component(0, 0, 1), 9);
        });
        all.description(11, "(0 without components).", c -> {
            BridgeRounds x = Fixtures.bridges(2);
            x.addComponent(0, 0, 9, 0);
            x.rest(0, 0, NONE);
            c.due("the first one", x.bridge(0, 2), 9);
            c.due("one without, behind it", x.bridge(1, 2), 0);
        });
    }

    private static void years(Sentences all) {
        all.description(1, "The year is 0 at first.", c -> {
            c.due("a new object", new BridgeRounds().count(5), 0);
            c.due("a map", Fixtures.frame().count(5), 0);
            c.due("a bridge", Fixtures.frame().bridge(0, 4), 0);
        });
        all.description(14, "When a year passes, the wear of each component increases by its rate;", c -> {
            BridgeRounds x = Fixtures.bridges(2);
            int[] rates = {20, 1, 30, 33, 49, 0};
            for (int rate : rates) {
                x.addComponent(0, 0, 5, rate);
                x.addComponent(1, 0, 5, rate);
            }
            for (int year = 1; year <= 2; year++) {
                x.pass(1);
                for (int component = 0; component < 6; component++) {
                    c.due("wear at the rate " + rates[component], x.component(0, component, 2), year * rates[component]);
                    c.due("of the other bridge", x.component(1, component, 2), year * rates[component]);
                    c.due("the rating", x.component(1, component, 1), 5);
                }
            }
        });
        all.description(14, "if it is at least 100 then, it decreases by 100, and the rating by 1,", c -> {
            BridgeRounds x = Fixtures.components(0);
            x.addComponent(0, 0, 5, 33);
            x.addComponent(0, 0, 5, 50);
            x.addComponent(0, 0, 5, 60);
            x.pass(2);
            int[][] two = {{66, 5}, {0, 4}, {20, 4}};
            int[][] three = {{99, 5}, {50, 4}, {80, 4}};
            int[][] four = {{32, 4}, {0, 3}, {40, 3}};
            wearAndRating(c, x, two);
            x.pass(1);
            wearAndRating(c, x, three);
            x.pass(1);
            wearAndRating(c, x, four);
            BridgeRounds together = Fixtures.components(0);
            together.addComponent(0, 0, 9, 60);
            together.pass(5);
            c.due("five years at once", together.component(0, 0, 1), 6);
            c.due("five years at once", together.component(0, 0, 2), 0);
        });
        all.description(14, "but not below 0.", c -> {
            BridgeRounds x = Fixtures.deck(1, 50);
            x.pass(2);
            c.due("0", x.component(0, 0, 1), 0);
            x.pass(3);
            c.due("still 0", x.component(0, 0, 1), 0);
            c.due("the wear goes on", x.component(0, 0, 2), 50);
            x.pass(50);
            c.due("long behind", x.component(0, 0, 1), 0);
            BridgeRounds most = Fixtures.deck(9, 60);
            most.pass(50);
            c.due("30 points at once", most.component(0, 0, 1), 0);
        });
    }

    private static void wearAndRating(Check c, BridgeRounds x, int[][] wanted) {
        for (int component = 0; component < wanted.length; component++) {
            c.due("wear of " + component + " in " + x.count(5), x.component(0, component, 2), wanted[component][0]);
            c.due("rating of " + component + " in " + x.count(5), x.component(0, component, 1), wanted[component][1]);
        }
    }

    private static void inspections(Sentences all) {
        all.description(11, "A bridge has a told rating and the year of its latest inspection;", c -> {
            BridgeRounds x = Fixtures.frame();
            x.pass(1);
            x.inspect(0);
            x.pass(1);
            x.setRating(0, 1, 1);
            c.due("told", x.bridge(0, 3), 7);
            c.due("its year", x.bridge(0, 4), 1);
            x.inspect(0);
            c.due("told again", x.bridge(0, 3), 5);
            c.due("its latest year", x.bridge(0, 4), 2);
        });
        all.description(4, "when it is built, both are as if it was inspected then (told rating 0, as it has no components yet).", c -> {
            BridgeRounds x = Fixtures.later(Fixtures.roads(4, 8), 70);
            x.addBridge(2);
            c.due("told", x.bridge(0, 3), 0);
            c.due("its year", x.bridge(0, 4), 70);
            x.addComponent(0, 0, 9, 0);
            x.rest(0, 0, NONE);
            c.due("told still", x.bridge(0, 3), 0);
            c.due("no inspection", x.count(6), 0);
            c.due("nothing spent", x.count(7), 0);
        });
        all.description(15, "To inspect a bridge makes its told rating its true one, and its year the present one;", c -> {
            BridgeRounds x = Fixtures.later(Fixtures.roads(4, 8), 1);
            Fixtures.bridgeOf(x, 0, 9);
            x.pass(2);
            x.setRating(0, 0, 2);
            x.inspect(0);
            c.due("a lower one", x.bridge(0, 3), 2);
            c.due("its year", x.bridge(0, 4), 3);
            x.setRating(0, 0, 8);
            x.inspect(0);
            c.due("a higher one", x.bridge(0, 3), 8);
            c.due("the true one stays", x.bridge(0, 2), 8);
        });
        all.description(15, "it costs 5 and 1 more for each component.", c -> {
            for (int many = 0; many <= 6; many++) {
                BridgeRounds x = Fixtures.components(many);
                x.inspect(0);
                c.due("of " + many, x.count(7), 5 + many);
                x.inspect(1);
                c.due("and one without", x.count(7), 10 + many);
            }
        });
    }

    /** A bridge that is told a rating in the year 2: asks whether it is due in the years 3 to 7. */
    private static void dueFrom(Check c, int rating, int first) {
        BridgeRounds x = Fixtures.later(Fixtures.roads(4, 8), 2);
        Fixtures.bridgeOf(x, 0, rating);
        c.due("told " + rating + ", due next", x.bridge(0, 5), first);
        for (int year = 2; year <= 7; year++) {
            c.due("told " + rating + ", due in " + year, x.bridge(0, 6), year >= first ? 1 : 0);
            c.due("told " + rating + ", count(9) in " + year, x.count(9), year >= first ? 1 : 0);
            x.pass(1);
        }
    }

    private static void due(Sentences all) {
        all.description(11, "A bridge is due if the present year is at least the year of its latest inspection plus 4 (told rating 7 to 9),", c -> {
            dueFrom(c, 7, 6);
            dueFrom(c, 8, 6);
            dueFrom(c, 9, 6);
        });
        all.description(11, "2 (5 or 6),", c -> {
            dueFrom(c, 5, 4);
            dueFrom(c, 6, 4);
        });
        all.description(11, "or 1 (0 to 4).", c -> {
            for (int rating = 0; rating <= 4; rating++) {
                dueFrom(c, rating, 3);
            }
        });
    }

    private static void posts(Sentences all) {
        int[] posts = {0, 3, 3, 7, 12, 20, 28, 40, 60, 60};
        all.description(11, "The post of a bridge, in tons, is by its told rating 0 to 9: 0, 3, 3, 7, 12, 20, 28, 40, 60, 60.", c -> {
            for (int rating = 0; rating <= 9; rating++) {
                BridgeRounds x = Fixtures.roads(4, 8);
                Fixtures.bridgeOf(x, 0, rating);
                c.due("told " + rating, x.bridge(0, 8), posts[rating]);
                x.setRating(0, 0, 9 - rating);
                c.due("told " + rating + ", and not true", x.bridge(0, 8), posts[rating]);
            }
        });
        all.description(8, "A bridge that is closed has the post 0.", c -> {
            for (int rating = 0; rating <= 9; rating++) {
                BridgeRounds x = Fixtures.towns(2);
                x.addRoad(0, 1, 5);
                Fixtures.bridgeOf(x, 0, rating);
                x.close(0, true);
                c.due("told " + rating, x.bridge(0, 8), 0);
                c.due("no vehicle", x.heaviest(0, 1), NONE);
                x.close(0, false);
                c.due("told " + rating + ", open again", x.bridge(0, 8), posts[rating]);
            }
        });
        all.description(19, "A vehicle with a weight, 1 to 60, can use a road if this carries no bridge,", c -> {
            for (int weight : new int[] {1, 2, 30, 59, 60}) {
                int tons = weight;
                c.still("a weight of " + tons, () -> Fixtures.roads(3, 1), x -> x.way(0, 1, tons), 11);
            }
        });
        all.description(19, "or one whose post is at least the weight.", c -> {
            for (int rating = 0; rating <= 9; rating++) {
                BridgeRounds x = Fixtures.towns(2);
                x.addRoad(0, 1, 5);
                Fixtures.bridgeOf(x, 0, rating);
                for (int weight = 1; weight <= 60; weight++) {
                    c.due("told " + rating + ": way(0, 1, " + weight + ")", x.way(0, 1, weight),
                            posts[rating] >= weight ? 5 : NONE);
                }
            }
        });
    }

    private static void ways(Sentences all) {
        all.description(19, "The way of a vehicle from a town to a town is the shortest one over roads that it can use", c -> {
            BridgeRounds x = Fixtures.towns(4);
            x.addRoad(0, 1, 99);
            x.addRoad(0, 2, 33);
            x.addRoad(2, 3, 32);
            x.addRoad(3, 1, 33);
            c.due("three roads, shorter by 1", x.way(0, 1, 5), 98);
            x.addRoad(1, 2, 64);
            c.due("two roads, shorter by 1 more", x.way(0, 1, 5), 97);
            Fixtures.bridgeOf(x, 4, 3);
            c.due("a vehicle that can use it", x.way(0, 1, 7), 97);
            c.due("one that can't", x.way(0, 1, 8), 98);
            x.addBridge(3);
            c.due("nor that one", x.way(0, 1, 8), 99);
        });
        all.description(19, "(0 if both are the same);", c -> {
            for (int town = 0; town < 5; town++) {
                int same = town;
                c.still("the town " + same, Fixtures::ring, x -> x.way(same, same, 60), 0);
                c.still("its only town", Fixtures::ring, x -> x.wayTown(same, same, 60, 0), same);
                c.still("no more towns", Fixtures::ring, x -> x.wayTown(same, same, 60, 1), NONE);
            }
        });
    }

    private static void towns(Check c, BridgeRounds x, int weight, int... wanted) {
        int from = wanted[0];
        int to = wanted[wanted.length - 1];
        for (int index = 0; index < wanted.length; index++) {
            c.due("from " + from + " to " + to + ", place " + index, x.wayTown(from, to, weight, index), wanted[index]);
        }
        c.due("from " + from + " to " + to + ", the end", x.wayTown(from, to, weight, wanted.length), NONE);
    }

    private static void waysBack(Sentences all) {
        all.description(20, "it goes back from its end:", c -> {
            // By 1 and 4, or by 2 and 3, as short: 3 is lower than 4, ahead of the end.
            BridgeRounds x = Fixtures.towns(6);
            x.addRoad(0, 1, 5);
            x.addRoad(1, 4, 5);
            x.addRoad(4, 5, 5);
            x.addRoad(0, 2, 5);
            x.addRoad(2, 3, 5);
            x.addRoad(3, 5, 5);
            towns(c, x, 60, 0, 2, 3, 5);
            towns(c, x, 60, 5, 4, 1, 0);
        });
        all.description(20, "ahead of each town comes the town with the lowest number over a road with which the way is a shortest one,", c -> {
            BridgeRounds x = Fixtures.towns(5);
            x.addRoad(4, 3, 5);
            x.addRoad(3, 0, 5);
            x.addRoad(4, 2, 4);
            x.addRoad(2, 0, 6);
            x.addRoad(4, 1, 6);
            x.addRoad(1, 0, 5);
            towns(c, x, 60, 4, 2, 0);
            x.addRoad(1, 0, 4);
            towns(c, x, 60, 4, 1, 0);
            BridgeRounds y = Fixtures.towns(3);
            y.addRoad(2, 1, 5);
            y.addRoad(1, 0, 5);
            y.addRoad(0, 2, 10);
            towns(c, y, 60, 0, 2);
            towns(c, y, 60, 2, 1, 0);
        });
        all.description(20, "by the lowest such road.", c -> {
            BridgeRounds x = Fixtures.towns(3);
            x.addRoad(0, 1, 5);
            x.addRoad(0, 1, 5);
            x.addRoad(1, 2, 5);
            towns(c, x, 60, 0, 1, 2);
            c.due("its length", x.way(0, 2, 60), 10);
            x.addBridge(0);
            towns(c, x, 60, 0, 1, 2);
            c.due("its length by the other road", x.way(0, 2, 60), 10);
        });
    }

    private static void detours(Sentences all) {
        all.description(21, "The detour of a bridge for a vehicle is the length of the shortest way between the towns of its road, without this road, minus the length of the road", c -> {
            BridgeRounds x = Fixtures.towns(3);
            x.addRoad(0, 1, 10);
            Fixtures.bridgeOf(x, 0, 9);
            x.addRoad(1, 2, 30);
            x.addRoad(2, 0, 40);
            c.due("around", x.detour(0, 60), 1060);
            x.addRoad(0, 1, 69);
            c.due("shorter by 1", x.detour(0, 60), 1059);
            x.close(0, true);
            c.due("its own post plays no part", x.detour(0, 60), 1059);
            Fixtures.bridgeOf(x, 3, 2);
            c.due("the light ones", x.detour(0, 3), 1059);
            c.due("the heavy ones", x.detour(0, 4), 1060);
        });
        all.description(21, "(it can be below 0);", c -> {
            BridgeRounds x = Fixtures.towns(2);
            x.addRoad(0, 1, 99);
            x.addBridge(0);
            x.addRoad(0, 1, 1);
            c.due("-98", x.detour(0, 60), 902);
        });
        all.description(21, "it is told as 1000 plus this number.", c -> {
            BridgeRounds x = Fixtures.longLine();
            x.addRoad(9, 0, 1);
            x.addBridge(9);
            c.due("the greatest one, 890", x.detour(0, 60), 1890);
            BridgeRounds y = Fixtures.towns(2);
            y.addRoad(0, 1, 7);
            y.addRoad(0, 1, 7);
            y.addBridge(0);
            c.due("0", y.detour(0, 60), 1000);
        });
    }
}
