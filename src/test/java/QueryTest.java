/** Promises 15 to 22: what there is. */
public final class QueryTest {
    public static void main(String[] args) {
        promise15Glaze();
        promise16Position();
        promise17Pile();
        promise18Lot();
        promise19FindLot();
        promise20Delivery();
        promise21Event();
        promise22Total();
        promise22Values();
        Checks.finish();
    }

    private static TileFactory used() {
        TileFactory x = new TileFactory();
        x.setQuality(0, 50, 101);
        x.setSharpness(50);
        x.setBoxSize(6);
        x.setPosition(0, 1, 10, 30);
        // position 1 has the shade 9 and 7 of its 10 tiles; 70 tiles and 35 hidden of the shade 8, 7 and 3 of 9
        x.fire(0, 0, 1000, 10);
        // 18 of 35 and 2 of 3 are found
        x.grade(1);
        x.pack();
        x.fire(1, 3, 1000, 4);
        return x;
    }

    private static void promise15Glaze() {
        TileFactory x = used();
        int[] due = {8, 10, 50, 101, 4, 77};
        for (int property = 0; property < 6; property++) {
            Checks.same("glaze 0 " + property, x.glaze(0, property), due[property]);
        }
        Checks.same("no lots", x.glaze(3, 4), 0);
        Checks.same("the bench does not count", x.glaze(3, 5), 0);
        x.deliver(0, 1, 1);
        Checks.same("a delivery does not count", x.glaze(0, 5), 71);
        Checks.raisesIndex("glaze -1", () -> x.glaze(-1, 0));
        Checks.raisesIndex("glaze 4", () -> x.glaze(4, 6));
        Checks.raisesArgument("property -1", () -> x.glaze(0, -1));
        Checks.raisesArgument("property 6", () -> x.glaze(0, 6));
    }

    private static void promise16Position() {
        TileFactory x = used();
        Checks.same("offset", x.position(0, 1, 0), 10);
        Checks.same("breakage", x.position(0, 1, 1), 30);
        Checks.same("broken", x.position(0, 1, 2), 3);
        Checks.same("none broken", x.position(0, 0, 2), 0);
        Checks.raisesIndex("kiln -1", () -> x.position(-1, 0, 0));
        Checks.raisesIndex("kiln 3", () -> x.position(3, 0, 3));
        Checks.raisesIndex("position -1", () -> x.position(0, -1, 0));
        Checks.raisesIndex("position 8", () -> x.position(0, 8, -1));
        Checks.raisesArgument("property -1", () -> x.position(0, 0, -1));
        Checks.raisesArgument("property 3", () -> x.position(2, 7, 3));
    }

    private static void promise17Pile() {
        TileFactory x = used();
        int[] due = {3, 8, 32, 0};
        for (int property = 0; property < 4; property++) {
            Checks.same("pile " + property, x.pile(0, property), due[property]);
        }
        Checks.raisesIndex("pile -1", () -> x.pile(-1, 0));
        Checks.raisesIndex("pile 1", () -> x.pile(1, 4));
        Checks.raisesArgument("property -1", () -> x.pile(0, -1));
        Checks.raisesArgument("property 4", () -> x.pile(0, 4));
        x.grade(1);
        Checks.raisesIndex("no pile then", () -> x.pile(0, 0));
    }

    private static void promise18Lot() {
        TileFactory x = used();
        int[][] due = {{0, 8, 1, 4, 8, 17}, {0, 8, 2, 0, 3, 0}, {0, 9, 1, 5, 0, 1}, {0, 9, 2, 2, 0, 0}};
        for (int lot = 0; lot < 4; lot++) {
            for (int property = 0; property < 6; property++) {
                Checks.same("lot " + lot + " " + property, x.lot(lot, property), due[lot][property]);
            }
        }
        Checks.raisesIndex("lot -1", () -> x.lot(-1, 0));
        Checks.raisesIndex("lot 4", () -> x.lot(4, 6));
        Checks.raisesArgument("property -1", () -> x.lot(0, -1));
        Checks.raisesArgument("property 6", () -> x.lot(0, 6));
    }

    private static void promise19FindLot() {
        TileFactory x = used();
        Checks.same("first", x.findLot(0, 8, 1), 0);
        Checks.same("second", x.findLot(0, 8, 2), 1);
        Checks.same("last", x.findLot(0, 9, 2), 3);
        Checks.same("none", x.findLot(0, 19, 1), TileFactory.NONE);
        Checks.same("none of this glaze", x.findLot(3, 8, 1), TileFactory.NONE);
        Checks.same("no lot for shade 0", x.findLot(0, 0, 2), TileFactory.NONE);
        Checks.raisesArgument("glaze -1", () -> x.findLot(-1, 8, 1));
        Checks.raisesArgument("glaze 4", () -> x.findLot(4, 8, 1));
        Checks.raisesArgument("shade -1", () -> x.findLot(0, -1, 1));
        Checks.raisesArgument("shade 20", () -> x.findLot(0, 20, 1));
        Checks.raisesArgument("grade 0", () -> x.findLot(0, 8, 0));
        Checks.raisesArgument("grade 3", () -> x.findLot(0, 8, 3));
    }

    private static void promise20Delivery() {
        TileFactory x = used();
        x.deliver(0, 1, 5);
        x.deliver(0, 2, 2);
        x.takeBack(0, 2, 0);
        // 17 * 30 / 52 = 9
        long[][] due = {{0, 5, 3, 9, 3030}, {1, 2, 2, 0, 600}};
        for (int delivery = 0; delivery < 2; delivery++) {
            for (int property = 0; property < 5; property++) {
                Checks.same("delivery", x.delivery(delivery, property), due[delivery][property]);
            }
        }
        Checks.raisesIndex("delivery -1", () -> x.delivery(-1, 0));
        Checks.raisesIndex("delivery 2", () -> x.delivery(2, 5));
        Checks.raisesArgument("property -1", () -> x.delivery(0, -1));
        Checks.raisesArgument("property 5", () -> x.delivery(0, 5));
    }

    private static void promise21Event() {
        TileFactory x = used();
        int[][] due = {{1, 0}, {2, 20}, {1, 3}, {TileFactory.NONE, TileFactory.NONE}};
        for (int index = 0; index < 4; index++) {
            Checks.same("kind " + index, x.event(index, 0), due[index][0]);
            Checks.same("number " + index, x.event(index, 1), due[index][1]);
        }
        Checks.same("far behind", x.event(Integer.MAX_VALUE, 0), TileFactory.NONE);
        Checks.raisesArgument("index -1", () -> x.event(-1, 0));
        Checks.raisesArgument("property -1", () -> x.event(0, -1));
        Checks.raisesArgument("property 2", () -> x.event(0, 2));
        Checks.raisesArgument("property 2 of no event", () -> x.event(3, 2));
        for (int tiles = 1; tiles <= 30; tiles++) {
            x.fire(0, 0, 1000, tiles);
        }
        Checks.same("latest: 30 * 30 / 100", x.event(0, 1), 9);
        Checks.same("oldest: 11 * 30 / 100", x.event(19, 1), 3);
        Checks.same("kind of the oldest", x.event(19, 0), 1);
        Checks.same("only 20 are kept", x.event(20, 0), TileFactory.NONE);
        x.grade(1);
        Checks.same("kind of the latest", x.event(0, 0), 2);
        Checks.same("kind of the one before", x.event(1, 0), 1);
        x.drop(0, 8, 1, 2);
        Checks.same("kind of breaking", x.event(0, 0), 4);
        Checks.same("kind of the grading", x.event(1, 0), 2);
        Checks.same("kind of the firing before", x.event(2, 0), 1);
    }

    private static void promise22Total() {
        TileFactory x = used();
        x.append('x');
        x.append('y');
        x.deliver(0, 1, 5);
        x.takeBack(0, 2, 1);
        long[] due = {50, 6, 2, 112, 4, 32, 22, 6, 18, 1, 4, 1, 6, 0, 3030, 2};
        // grade 1: 33 + 5 tiles at 101; grade 2: 18 + 2 tiles at 50
        due[13] = 38 * 101 + 20 * 50;
        for (int property = 0; property < 16; property++) {
            Checks.same("total " + property, x.total(property), due[property]);
        }
        Checks.raisesArgument("property -1", () -> x.total(-1));
        Checks.raisesArgument("property 16", () -> x.total(16));
    }

    private static void promise22Values() {
        TileFactory x = new TileFactory();
        x.setQuality(0, 0, 9999);
        x.setQuality(1, 100, 9999);
        x.setSharpness(100);
        x.setBoxSize(50);
        for (int firing = 0; firing < 150; firing++) {
            x.fire(0, 0, 1000, 100);
            x.fire(0, 1, 1000, 100);
        }
        x.grade(1);
        Checks.same("value of loose tiles", x.total(13), 120000L * 9999 + 120000L * 4999);
        x.pack();
        Checks.same("value of boxes", x.total(13), 120000L * 9999 + 120000L * 4999);
        x.deliver(0, 1, 2400);
        Checks.same("value of a delivery", x.delivery(0, 4), 1199880000L);
        x.setQuality(1, 0, 1);
        Checks.same("half of 1 cent", x.total(13), 0);
        for (int firing = 0; firing < 150; firing++) {
            x.fire(0, 0, 1000, 100);
        }
        x.grade(1);
        x.pack();
        x.deliver(0, 1, 2400);
        Checks.same("values of deliveries", x.total(14), 2399760000L);
    }
}
