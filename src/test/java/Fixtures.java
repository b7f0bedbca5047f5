/** Objects that tests begin with. */
final class Fixtures {
    private Fixtures() {
    }

    static BridgeRounds towns(int many) {
        BridgeRounds x = new BridgeRounds();
        x.addTowns(many);
        return x;
    }

    /** The road i joins the towns i and i + 1, around, and is 11 + i long. */
    static BridgeRounds roads(int towns, int many) {
        BridgeRounds x = towns(towns);
        for (int i = 0; i < many; i++) {
            x.addRoad(i % towns, (i + 1) % towns, 11 + i);
        }
        return x;
    }

    /** Four towns, eight roads, and bridges on the first ones. */
    static BridgeRounds bridges(int many) {
        BridgeRounds x = roads(4, 8);
        for (int i = 0; i < many; i++) {
            x.addBridge(i);
        }
        return x;
    }

    /** Two bridges; the first one has components, which rest on nothing. */
    static BridgeRounds components(int many) {
        BridgeRounds x = bridges(2);
        for (int i = 0; i < many; i++) {
            x.addComponent(0, i % 4, 5, 10);
        }
        return x;
    }

    /** A bridge with four components, the last of which bears nothing. */
    static BridgeRounds frame() {
        BridgeRounds x = bridges(1);
        x.addComponent(0, 0, 9, 10);
        x.addComponent(0, 1, 7, 30);
        x.addComponent(0, 2, 5, 0);
        x.addComponent(0, 3, 8, 60);
        x.rest(0, 0, 1);
        x.rest(0, 0, 2);
        x.rest(0, 1, BridgeRounds.NONE);
        x.rest(0, 2, BridgeRounds.NONE);
        return x;
    }

    /** A bridge on the road that has the given rating, told and true, and does not wear. */
    static void bridgeOf(BridgeRounds x, int road, int rating) {
        int bridge = x.addBridge(road);
        x.addComponent(bridge, 0, rating, 0);
        x.rest(bridge, 0, BridgeRounds.NONE);
        x.inspect(bridge);
    }

    static void type(BridgeRounds x, String text) {
        for (int i = 0; i < text.length(); i++) {
            x.type(text.charAt(i));
        }
    }

    /** The numbers just outside of a range, and those farthest away. */
    static int[] outside(int least, int most) {
        return new int[] {least - 1, most + 1, Integer.MIN_VALUE, Integer.MAX_VALUE};
    }

    static BridgeRounds withText(BridgeRounds x, String text) {
        type(x, text);
        return x;
    }

    /** Lets so many years pass, more than one call can. */
    static BridgeRounds later(BridgeRounds x, int years) {
        for (int passed = 0; passed < years; passed += 50) {
            x.pass(Math.min(50, years - passed));
        }
        return x;
    }

    /** The towns 0 to 3 in a line; the roads 0 - 1 and 2 - 3 carry a bridge each, due and open to nobody. */
    static BridgeRounds twoDue() {
        BridgeRounds x = towns(4);
        x.addRoad(0, 1, 20);
        x.addRoad(2, 3, 20);
        x.addRoad(1, 2, 21);
        x.addBridge(0);
        x.addBridge(1);
        x.pass(1);
        return x;
    }

    /** The towns 0 to 3 around, the road 1 - 2 over a bridge with the post 20, and the town 4 alone. */
    static BridgeRounds ring() {
        BridgeRounds x = towns(5);
        x.addRoad(0, 1, 10);
        x.addRoad(1, 2, 10);
        x.addRoad(3, 2, 25);
        x.addRoad(0, 3, 30);
        bridgeOf(x, 1, 5);
        return x;
    }

    /** All ten towns in a line, each 99 from the next. */
    static BridgeRounds longLine() {
        BridgeRounds x = towns(10);
        for (int town = 0; town < 9; town++) {
            x.addRoad(town, town + 1, 99);
        }
        return x;
    }

    /** A bridge whose deck alone bears it, on the ground. */
    static BridgeRounds deck(int rating, int rate) {
        BridgeRounds x = bridges(1);
        x.addComponent(0, 0, rating, rate);
        x.rest(0, 0, BridgeRounds.NONE);
        return x;
    }

    /** The frame, three bidders, and so many lines of one point, for its components in turn. */
    static BridgeRounds lines(int many) {
        BridgeRounds x = frame();
        x.addBidder(10, 2, 4, 6, 8);
        x.addBidder(0, 5, 5, 5, 5);
        x.addBidder(30, 1, 1, 1, 1);
        for (int i = 0; i < many; i++) {
            x.addLine(0, i % 4, 1);
        }
        return x;
    }

    /** The frame with a line, and no bidders. */
    static BridgeRounds noBidders() {
        BridgeRounds x = frame();
        x.addLine(0, 1, 1);
        return x;
    }
}
