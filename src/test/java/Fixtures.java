/** Objects that tests begin with. */
final class Fixtures {
    private Fixtures() {
    }

    static BridgeRounds towns(int many) {
        BridgeRounds x = new BridgeRounds();
        x.addTowns(many);
        return x;
    }

    /** The road i joins the towns i and i + 1, around, and is 11 + i long. */
    static BridgeRounds roads(int towns, int many) {
        BridgeRounds x = towns(towns);
        for (int i = 0; i < many; i++) {
            x.addRoad(i % towns, (i + 1) % towns, 11 + i);
        }
        return x;
    }

    /** Four towns, eight roads, and bridges on the first ones. */
    static BridgeRounds bridges(int many) {
        BridgeRounds x = roads(4, 8);
        for (int i = 0; i < many; i++) {
            x.addBridge(i);
        }
        return x;
    }

    /** Two bridges; the first one has components, which rest on nothing. */
    static BridgeRounds components(int many) {
        BridgeRounds x = bridges(2);
        for (int i = 0; i < many; i++) {
            x.addComponent(0, i % 4, 5, 10);
        }
        return x;
    }

    /** A bridge with four components, the last of which bears nothing. */
    static BridgeRounds frame() {
        BridgeRounds x = bridges(1);
        x.addComponent(0, 0, 9, 10);
        x.addComponent(0, 1, 7, 30);
        x.addComponent(0, 2, 5, 0);
        x.addComponent(0, 3, 8, 60);
        x.rest(0, 0, 1);
        x.rest(0, 0, 2);
        x.rest(0, 1, BridgeRounds.NONE);
        x.rest(0, 2, BridgeRounds.NONE);
        return x;
    }

    /** A bridge on the road that has the given rating, told and true, and does not wear. */
    static void bridgeOf(BridgeRounds x, int road, int rating) {
        int bridge = x.addBridge(road);
        x.addComponent(bridge, 0, rating, 0);
        x.rest(bridge, 0, BridgeRounds.NONE);
        x.inspect(bridge);
    }

    static void type(BridgeRounds x, String text) {
        for (int i = 0; i < text.length(); i++) {
            x.type(text.charAt(i));
        }
    }
}
