/** Promises 15 to 22 at their edges: numbers and properties, what is empty, and what is full. */
public final class EdgeQueryTest {
    public static void main(String[] args) {
        promise15GlazeIs0To3();
        promise15PropertyIs0To5();
        promise15LotsOfAGlaze();
        promise16KilnIs0To2();
        promise16PositionIs0To7();
        promise16PropertyIs0To2();
        promise16TilesThatBrokeSoFar();
        promise17NoSuchPile();
        promise17PropertyIs0To3();
        promise18NoSuchLot();
        promise18PropertyIs0To5();
        promise19NoneIfThereIsNoSuchLot();
        promise19ArgumentsOutOfRange();
        promise20NoSuchDelivery();
        promise20PropertyIs0To4();
        promise21NoneIfNotSoManyAreKept();
        promise21Latest20AreKept();
        promise21IndexIsNegative();
        promise21PropertyIs0Or1();
        promise22PropertyIs0To15();
        promise22TilesWithCustomers();
        promise22TextIsEmptyOrFull();
        fullBenchAndAllLots();
        Checks.finish();
    }

    private static void promise15GlazeIs0To3() {
        TileFactory x = new TileFactory();
        for (int glaze = 0; glaze < 4; glaze++) {
            x.setGlaze(glaze, glaze, 5 + glaze);
            x.setQuality(glaze, 10 + glaze, 20 + glaze);
        }
        for (int glaze = 0; glaze < 4; glaze++) {
            Checks.same("base of " + glaze, x.glaze(glaze, 0), glaze);
            Checks.same("sensitivity of " + glaze, x.glaze(glaze, 1), 5 + glaze);
            Checks.same("defects of " + glaze, x.glaze(glaze, 2), 10 + glaze);
            Checks.same("price of " + glaze, x.glaze(glaze, 3), 20 + glaze);
        }
        for (int glaze : Refusal.outside(0, 3)) {
            Refusal.index("glaze(" + glaze + ", 0)", Recipes::busy, y -> y.glaze(glaze, 0));
            Refusal.index("glaze(" + glaze + ", 6)", Recipes::busy, y -> y.glaze(glaze, 6));
        }
    }

    private static void promise15PropertyIs0To5() {
        TileFactory x = Recipes.busy();
        Checks.same("property 0", x.glaze(0, 0), 8);
        Checks.same("property 5: 38 and 18, 5 and 2", x.glaze(0, 5), 63);
        for (int property : Refusal.outside(0, 5)) {
            Refusal.argument("glaze(0, " + property + ")", Recipes::busy, y -> y.glaze(0, property));
        }
    }

    /** "number of its lots", also of those without tiles; tiles on the bench and with customers are in no lot. */
    private static void promise15LotsOfAGlaze() {
        TileFactory x = Recipes.withLot(20, 0);
        x.fire(0, 3, 1000, 10);
        Checks.same("no lots of glaze 3", x.glaze(3, 4), 0);
        Checks.same("no tiles of glaze 3", x.glaze(3, 5), 0);
        x.deliver(0, 1, 1);
        Checks.same("10 tiles are left", x.glaze(0, 5), 10);
        x.deliver(0, 1, 1);
        Checks.same("no tiles are left", x.glaze(0, 5), 0);
        Checks.same("the lot is left", x.glaze(0, 4), 1);
    }

    private static void promise16KilnIs0To2() {
        TileFactory x = new TileFactory();
        for (int kiln = 0; kiln < 3; kiln++) {
            x.setPosition(kiln, 3, 10 + kiln, 20 + kiln);
        }
        for (int kiln = 0; kiln < 3; kiln++) {
            Checks.same("offset in " + kiln, x.position(kiln, 3, 0), 10 + kiln);
            Checks.same("breakage in " + kiln, x.position(kiln, 3, 1), 20 + kiln);
        }
        for (int kiln : Refusal.outside(0, 2)) {
            Refusal.index("position(" + kiln + ", 3, 0)", Recipes::busy, y -> y.position(kiln, 3, 0));
            Refusal.index("position(" + kiln + ", 3, 3)", Recipes::busy, y -> y.position(kiln, 3, 3));
        }
    }

    private static void promise16PositionIs0To7() {
        TileFactory x = new TileFactory();
        for (int position = 0; position < 8; position++) {
            x.setPosition(1, position, -position, position);
        }
        for (int position = 0; position < 8; position++) {
            Checks.same("offset of " + position, x.position(1, position, 0), -position);
            Checks.same("breakage of " + position, x.position(1, position, 1), position);
        }
        for (int position : Refusal.outside(0, 7)) {
            Refusal.index("position(0, " + position + ", 0)", Recipes::busy, y -> y.position(0, position, 0));
            Refusal.index("position(1, " + position + ", -1)", Recipes::busy, y -> y.position(1, position, -1));
        }
    }

    private static void promise16PropertyIs0To2() {
        TileFactory x = Recipes.busy();
        Checks.same("property 0", x.position(0, 1, 0), 10);
        Checks.same("property 2", x.position(0, 1, 2), 3);
        for (int property : Refusal.outside(0, 2)) {
            Refusal.argument("position(0, 1, " + property + ")", Recipes::busy, y -> y.position(0, 1, property));
        }
    }

    private static void promise16TilesThatBrokeSoFar() {
        TileFactory x = Recipes.withLot(10, 0);
        Checks.same("position 1", x.position(0, 1, 2), 10);
        x.setPosition(0, 1, 0, 0);
        Checks.same("another breakage", x.position(0, 1, 2), 10);
        x.drop(0, 8, 1, 10);
        Checks.same("a box breaks elsewhere", x.position(0, 0, 2), 0);
        x.fire(0, 0, 1000, 1);
        Checks.same("position 1 then", x.position(0, 1, 2), 10);
        Checks.same("position 2 then", x.position(0, 2, 2), 11);
    }

    private static void promise17NoSuchPile() {
        Refusal.index("pile 0 of a new object", TileFactory::new, y -> y.pile(0, 0));
        Refusal.index("pile 0 of a new object, property 4", TileFactory::new, y -> y.pile(0, 4));
        for (int pile : Refusal.outside(0, 0)) {
            Refusal.index("pile(" + pile + ", 0)", Recipes::busy, y -> y.pile(pile, 0));
            Refusal.index("pile(" + pile + ", 4)", Recipes::busy, y -> y.pile(pile, 4));
        }
    }

    private static void promise17PropertyIs0To3() {
        TileFactory x = new TileFactory();
        x.setQuality(3, 50, 1);
        x.fire(0, 3, 1000, 4);
        int[] due = {3, 8, 32, 16};
        for (int property = 0; property < 4; property++) {
            Checks.same("property " + property, x.pile(0, property), due[property]);
        }
        for (int property : Refusal.outside(0, 3)) {
            Refusal.argument("pile(0, " + property + ")", Recipes::busy, y -> y.pile(0, property));
        }
    }

    private static void promise18NoSuchLot() {
        Refusal.index("lot 0 of a new object", TileFactory::new, y -> y.lot(0, 0));
        Refusal.index("lot 0 of a new object, property 6", TileFactory::new, y -> y.lot(0, 6));
        for (int lot : Refusal.outside(0, 3)) {
            Refusal.index("lot(" + lot + ", 0)", Recipes::busy, y -> y.lot(lot, 0));
            Refusal.index("lot(" + lot + ", 6)", Recipes::busy, y -> y.lot(lot, 6));
        }
        Checks.same("the last lot", Recipes.busy().lot(3, 1), 9);
    }

    private static void promise18PropertyIs0To5() {
        int[] due = {0, 8, 1, 8, 5, 12};
        for (int property = 0; property < 6; property++) {
            Checks.same("property " + property, Recipes.busy().lot(0, property), due[property]);
        }
        for (int property : Refusal.outside(0, 5)) {
            Refusal.argument("lot(0, " + property + ")", Recipes::busy, y -> y.lot(0, property));
        }
    }

    /** "NONE if there is no such lot" */
    private static void promise19NoneIfThereIsNoSuchLot() {
        TileFactory x = new TileFactory();
        for (int glaze = 0; glaze < 4; glaze += 3) {
            for (int shade = 0; shade < 20; shade += 19) {
                for (int grade = 1; grade < 3; grade++) {
                    Checks.same("in a new object", x.findLot(glaze, shade, grade), TileFactory.NONE);
                }
            }
        }
        x.fire(0, 0, 1000, 10);
        Checks.same("a pile is no lot", x.findLot(0, 8, 1), TileFactory.NONE);
        TileFactory y = Recipes.busy();
        Checks.same("the first lot", y.findLot(0, 8, 1), 0);
        Checks.same("the last lot", y.findLot(0, 9, 2), 3);
        Checks.same("shade 7", y.findLot(0, 7, 1), TileFactory.NONE);
        Checks.same("shade 10", y.findLot(0, 10, 1), TileFactory.NONE);
        Checks.same("glaze 1", y.findLot(1, 8, 1), TileFactory.NONE);
        Checks.same("grade 2", Recipes.withLot(10, 0).findLot(0, 8, 2), TileFactory.NONE);
    }

    private static void promise19ArgumentsOutOfRange() {
        for (int glaze : Refusal.outside(0, 3)) {
            Refusal.argument("findLot(" + glaze + ", 8, 1)", Recipes::busy, y -> y.findLot(glaze, 8, 1));
        }
        for (int shade : Refusal.outside(0, 19)) {
            Refusal.argument("findLot(0, " + shade + ", 1)", Recipes::busy, y -> y.findLot(0, shade, 1));
        }
        for (int grade : Refusal.outside(1, 2)) {
            Refusal.argument("findLot(0, 8, " + grade + ")", Recipes::busy, y -> y.findLot(0, 8, grade));
        }
        Refusal.argument("findLot(4, 0, 1) in a new object", TileFactory::new, y -> y.findLot(4, 0, 1));
    }

    private static void promise20NoSuchDelivery() {
        Refusal.index("delivery 0 of a new object", TileFactory::new, y -> y.delivery(0, 0));
        for (int delivery : Refusal.outside(0, 0)) {
            Refusal.index("delivery(" + delivery + ", 0)", Recipes::busy, y -> y.delivery(delivery, 0));
            Refusal.index("delivery(" + delivery + ", 5)", Recipes::busy, y -> y.delivery(delivery, 5));
        }
        TileFactory x = Recipes.busy();
        x.takeBack(0, 2, 0);
        Checks.same("a delivery of which no box is out", x.delivery(0, 2), 0);
        Checks.same("all of its boxes", x.delivery(0, 1), 3);
    }

    private static void promise20PropertyIs0To4() {
        long[] due = {0, 3, 2, 5, 1818};
        for (int property = 0; property < 5; property++) {
            Checks.same("property " + property, Recipes.busy().delivery(0, property), due[property]);
        }
        for (int property : Refusal.outside(0, 4)) {
            Refusal.argument("delivery(0, " + property + ")", Recipes::busy, y -> y.delivery(0, property));
        }
    }

    /** Position 0 of kiln 0 breaks all tiles, so that each firing has a number of its own. */
    private static TileFactory withEvents(int count) {
        TileFactory x = new TileFactory();
        x.setPosition(0, 0, 0, 100);
        for (int number = 1; number <= count; number++) {
            x.fire(0, 0, 1000, number);
        }
        return x;
    }

    /** "NONE if index is not negative and not so many events are kept" */
    private static void promise21NoneIfNotSoManyAreKept() {
        for (int property = 0; property < 2; property++) {
            Checks.same("no event", withEvents(0).event(0, property), TileFactory.NONE);
            Checks.same("one event", withEvents(1).event(0, property), 1);
            Checks.same("behind one event", withEvents(1).event(1, property), TileFactory.NONE);
            Checks.same("behind 19 events", withEvents(19).event(19, property), TileFactory.NONE);
            Checks.same("behind 20 events", withEvents(20).event(20, property), TileFactory.NONE);
            Checks.same("behind 21 events", withEvents(21).event(20, property), TileFactory.NONE);
            Checks.same("far behind", withEvents(21).event(Integer.MAX_VALUE, property), TileFactory.NONE);
            Checks.same("behind 16 bits", withEvents(21).event(1 << 16, property), TileFactory.NONE);
        }
    }

    /** "The factory keeps the latest 20 events." */
    private static void promise21Latest20AreKept() {
        for (int count : new int[] {1, 2, 19, 20, 21, 22, 39, 40, 41, 60}) {
            TileFactory x = withEvents(count);
            for (int index = 0; index < 20 && index < count; index++) {
                Checks.same(count + " events, kind " + index, x.event(index, 0), 1);
                Checks.same(count + " events, number " + index, x.event(index, 1), count - index);
            }
        }
    }

    private static void promise21IndexIsNegative() {
        for (int index : new int[] {-1, -20, Integer.MIN_VALUE}) {
            Refusal.argument("event(" + index + ", 0)", Recipes::busy, y -> y.event(index, 0));
            Refusal.argument("event(" + index + ", 1) in a new object", TileFactory::new, y -> y.event(index, 1));
        }
    }

    private static void promise21PropertyIs0Or1() {
        TileFactory x = Recipes.busy();
        Checks.same("kind of the latest", x.event(0, 0), 1);
        Checks.same("number of the latest", x.event(0, 1), 0);
        Checks.same("kind of the one before", x.event(1, 0), 4);
        Checks.same("number of the one before", x.event(1, 1), 2);
        for (int property : Refusal.outside(0, 1)) {
            Refusal.argument("event(0, " + property + ")", Recipes::busy, y -> y.event(0, property));
            Refusal.argument("event(99, " + property + ")", Recipes::busy, y -> y.event(99, property));
        }
    }

    private static void promise22PropertyIs0To15() {
        TileFactory x = Recipes.busy();
        // 38 + 5 tiles of grade 1 at 101, 18 + 2 of grade 2 at 50
        long[] due = {50, 6, 2, 112, 5, 32, 15, 8, 12, 1, 4, 1, 6, 43 * 101 + 20 * 50, 1818, 28};
        for (int property = 0; property < 16; property++) {
            Checks.same("total " + property, x.total(property), due[property]);
        }
        for (int property : Refusal.outside(0, 15)) {
            Refusal.argument("total(" + property + ")", Recipes::busy, y -> y.total(property));
        }
    }

    /** "tiles of boxes that are out; replaced tiles count as the ones that they replace" */
    private static void promise22TilesWithCustomers() {
        TileFactory x = Recipes.busy();
        Checks.same("2 boxes are out", x.total(8), 12);
        x.replace(0);
        Checks.same("after replace", x.total(8), 12);
        Checks.same("broken then", x.total(4), 10);
        x.takeBack(0, 1, 0);
        Checks.same("1 box is out", x.total(8), 6);
        x.takeBack(0, 1, 6);
        Checks.same("none is out", x.total(8), 0);
    }

    private static void promise22TextIsEmptyOrFull() {
        TileFactory x = new TileFactory();
        Checks.same("empty", x.total(15), 0);
        for (int length = 1; length <= 100; length++) {
            x.append('a');
            Checks.same("length", x.total(15), length);
        }
        Checks.raisesState("full", () -> x.append('a'));
        Checks.same("length of a full text", x.total(15), 100);
    }

    /** Every glaze and shade is on the bench, then every lot exists: 80 piles, 160 lots. */
    private static void fullBenchAndAllLots() {
        TileFactory x = Recipes.withOnePosition(true);
        x.setSharpness(50);
        for (int glaze = 0; glaze < 4; glaze++) {
            x.setQuality(glaze, 100, 1);
            for (int shade = 0; shade < 20; shade++) {
                x.setGlaze(glaze, shade, 0);
                x.fire(0, glaze, 1000, 2);
            }
        }
        Checks.same("piles", x.total(9), 80);
        Checks.same("glaze of the last pile", x.pile(79, 0), 3);
        Checks.same("shade of the last pile", x.pile(79, 1), 19);
        Checks.raisesIndex("pile 80", () -> x.pile(80, 0));
        Checks.same("one of each pile", x.grade(1), 80);
        Checks.same("lots", x.total(10), 160);
        Checks.same("lots of a glaze", x.glaze(3, 4), 40);
        Checks.same("the last lot", x.findLot(3, 19, 2), 159);
        Checks.same("its grade", x.lot(159, 2), 2);
        Checks.raisesIndex("lot 160", () -> x.lot(160, 0));
        x.undo();
        Checks.same("piles after undo", x.total(9), 80);
        Checks.same("lots after undo", x.total(10), 0);
    }
}
