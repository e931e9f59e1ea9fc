/** Promises 1 to 6 at their edges: a test for each sentence that names one. */
public final class EdgeSettingsTest {
    public static void main(String[] args) {
        promise1FactoryWithoutTiles();
        promise1InitialValues();
        promise2GlazeIs0To3();
        promise2BaseIs0To19();
        promise2SensitivityIs0To20();
        promise2IndexComesFirst();
        promise3GlazeIs0To3();
        promise3DefectsAre0To100();
        promise3PriceIs0To9999();
        promise3IndexComesFirst();
        promise4KilnIs0To2();
        promise4PositionIs0To7();
        promise4OffsetIsMinus40To40();
        promise4BreakageIs0To100();
        promise4IndexComesFirst();
        promise5SharpnessIs0To100();
        promise6SizeIs1To50();
        promise6RefusedIfALotHasBoxes();
        promise6RefusedIfBoxesAreOut();
        promise6ArgumentComesFirst();
        promises2To6SaveThoughNothingChanges();
        Checks.finish();
    }

    /** "Creates a factory without tiles." */
    private static void promise1FactoryWithoutTiles() {
        TileFactory x = new TileFactory();
        for (int property = 2; property < 16; property++) {
            Checks.same("total " + property, x.total(property), 0);
        }
        Refusal.index("pile 0", TileFactory::new, y -> y.pile(0, 0));
        Refusal.index("lot 0", TileFactory::new, y -> y.lot(0, 0));
        Refusal.index("delivery 0", TileFactory::new, y -> y.delivery(0, 0));
        Refusal.state("grade", TileFactory::new, y -> y.grade(1));
        Refusal.state("deliver", TileFactory::new, y -> y.deliver(0, 1, 1));
        Refusal.index("drop", TileFactory::new, y -> y.drop(0, 8, 1, 0));
        Refusal.index("takeBack", TileFactory::new, y -> y.takeBack(0, 1, 0));
        Refusal.index("replace", TileFactory::new, y -> y.replace(0));
        Refusal.state("undo", TileFactory::new, TileFactory::undo);
        Refusal.state("execute", TileFactory::new, TileFactory::execute);
    }

    /** "initially 8", "initially 10" and so on, in the Terms. */
    private static void promise1InitialValues() {
        TileFactory x = new TileFactory();
        int[] initial = {8, 10, 10, 100, 0, 0};
        for (int glaze = 0; glaze < 4; glaze++) {
            for (int property = 0; property < 6; property++) {
                Checks.same("glaze " + glaze + " " + property, x.glaze(glaze, property), initial[property]);
            }
        }
        for (int kiln = 0; kiln < 3; kiln++) {
            for (int position = 0; position < 8; position++) {
                for (int property = 0; property < 3; property++) {
                    Checks.same("position " + kiln + " " + position, x.position(kiln, position, property), 0);
                }
            }
        }
        Checks.same("sharpness", x.total(0), 60);
        Checks.same("size of a box", x.total(1), 10);
    }

    private static void promise2GlazeIs0To3() {
        TileFactory x = new TileFactory();
        Checks.same("glaze 0", x.setGlaze(0, 1, 2), 8);
        Checks.same("glaze 3", x.setGlaze(3, 4, 5), 8);
        int[][] due = {{1, 2}, {8, 10}, {8, 10}, {4, 5}};
        for (int glaze = 0; glaze < 4; glaze++) {
            Checks.same("base of " + glaze, x.glaze(glaze, 0), due[glaze][0]);
            Checks.same("sensitivity of " + glaze, x.glaze(glaze, 1), due[glaze][1]);
        }
        for (int glaze : Refusal.outside(0, 3)) {
            Refusal.index("setGlaze(" + glaze + ", 1, 2)", Recipes::busy, y -> y.setGlaze(glaze, 1, 2));
        }
    }

    private static void promise2BaseIs0To19() {
        TileFactory x = new TileFactory();
        Checks.same("base 0", x.setGlaze(1, 0, 10), 8);
        Checks.same("base is 0", x.glaze(1, 0), 0);
        Checks.same("base 19", x.setGlaze(1, 19, 10), 0);
        Checks.same("base is 19", x.glaze(1, 0), 19);
        Checks.same("previous base", x.setGlaze(1, 18, 10), 19);
        for (int base : Refusal.outside(0, 19)) {
            Refusal.argument("setGlaze(1, " + base + ", 10)", Recipes::busy, y -> y.setGlaze(1, base, 10));
        }
    }

    private static void promise2SensitivityIs0To20() {
        TileFactory x = new TileFactory();
        Checks.same("sensitivity 0", x.setGlaze(2, 8, 0), 8);
        Checks.same("sensitivity is 0", x.glaze(2, 1), 0);
        Checks.same("sensitivity 20", x.setGlaze(2, 9, 20), 8);
        Checks.same("sensitivity is 20", x.glaze(2, 1), 20);
        for (int sensitivity : Refusal.outside(0, 20)) {
            Refusal.argument("setGlaze(2, 8, " + sensitivity + ")", Recipes::busy, y -> y.setGlaze(2, 8, sensitivity));
        }
    }

    private static void promise2IndexComesFirst() {
        Refusal.index("setGlaze(4, -1, 0)", Recipes::busy, y -> y.setGlaze(4, -1, 0));
        Refusal.index("setGlaze(-1, 0, 21)", Recipes::busy, y -> y.setGlaze(-1, 0, 21));
    }

    private static void promise3GlazeIs0To3() {
        TileFactory x = new TileFactory();
        Checks.same("glaze 0", x.setQuality(0, 1, 2), 10);
        Checks.same("glaze 3", x.setQuality(3, 4, 5), 10);
        int[][] due = {{1, 2}, {10, 100}, {10, 100}, {4, 5}};
        for (int glaze = 0; glaze < 4; glaze++) {
            Checks.same("defects of " + glaze, x.glaze(glaze, 2), due[glaze][0]);
            Checks.same("price of " + glaze, x.glaze(glaze, 3), due[glaze][1]);
        }
        for (int glaze : Refusal.outside(0, 3)) {
            Refusal.index("setQuality(" + glaze + ", 1, 2)", Recipes::busy, y -> y.setQuality(glaze, 1, 2));
        }
    }

    private static void promise3DefectsAre0To100() {
        TileFactory x = new TileFactory();
        Checks.same("defects 0", x.setQuality(1, 0, 100), 10);
        Checks.same("defects are 0", x.glaze(1, 2), 0);
        Checks.same("defects 100", x.setQuality(1, 100, 100), 0);
        Checks.same("defects are 100", x.glaze(1, 2), 100);
        Checks.same("previous defects", x.setQuality(1, 99, 100), 100);
        for (int defects : Refusal.outside(0, 100)) {
            Refusal.argument("setQuality(1, " + defects + ", 5)", Recipes::busy, y -> y.setQuality(1, defects, 5));
        }
    }

    private static void promise3PriceIs0To9999() {
        TileFactory x = new TileFactory();
        Checks.same("price 0", x.setQuality(2, 10, 0), 10);
        Checks.same("price is 0", x.glaze(2, 3), 0);
        Checks.same("price 9999", x.setQuality(2, 11, 9999), 10);
        Checks.same("price is 9999", x.glaze(2, 3), 9999);
        for (int price : Refusal.outside(0, 9999)) {
            Refusal.argument("setQuality(2, 10, " + price + ")", Recipes::busy, y -> y.setQuality(2, 10, price));
        }
    }

    private static void promise3IndexComesFirst() {
        Refusal.index("setQuality(4, -1, 0)", Recipes::busy, y -> y.setQuality(4, -1, 0));
        Refusal.index("setQuality(-1, 0, 10000)", Recipes::busy, y -> y.setQuality(-1, 0, 10000));
    }

    private static void promise4KilnIs0To2() {
        TileFactory x = new TileFactory();
        Checks.same("kiln 0", x.setPosition(0, 4, 1, 2), 0);
        Checks.same("kiln 2", x.setPosition(2, 4, 3, 4), 0);
        int[][] due = {{1, 2}, {0, 0}, {3, 4}};
        for (int kiln = 0; kiln < 3; kiln++) {
            Checks.same("offset in " + kiln, x.position(kiln, 4, 0), due[kiln][0]);
            Checks.same("breakage in " + kiln, x.position(kiln, 4, 1), due[kiln][1]);
        }
        for (int kiln : Refusal.outside(0, 2)) {
            Refusal.index("setPosition(" + kiln + ", 4, 1, 2)", Recipes::busy, y -> y.setPosition(kiln, 4, 1, 2));
        }
    }

    private static void promise4PositionIs0To7() {
        TileFactory x = new TileFactory();
        Checks.same("position 0", x.setPosition(1, 0, 1, 2), 0);
        Checks.same("position 7", x.setPosition(1, 7, 3, 4), 0);
        Checks.same("offset of 0", x.position(1, 0, 0), 1);
        Checks.same("offset of 7", x.position(1, 7, 0), 3);
        Checks.same("breakage of 0", x.position(1, 0, 1), 2);
        Checks.same("breakage of 7", x.position(1, 7, 1), 4);
        Checks.same("the last one of kiln 0", x.position(0, 7, 0), 0);
        Checks.same("the first one of kiln 2", x.position(2, 0, 0), 0);
        for (int kiln = 0; kiln < 3; kiln++) {
            int number = kiln;
            for (int position : Refusal.outside(0, 7)) {
                Refusal.index("setPosition(" + kiln + ", " + position + ", 1, 2)", Recipes::busy,
                        y -> y.setPosition(number, position, 1, 2));
            }
        }
    }

    private static void promise4OffsetIsMinus40To40() {
        TileFactory x = new TileFactory();
        Checks.same("offset -40", x.setPosition(0, 0, -40, 0), 0);
        Checks.same("offset is -40", x.position(0, 0, 0), -40);
        Checks.same("offset 40", x.setPosition(0, 0, 40, 0), -40);
        Checks.same("offset is 40", x.position(0, 0, 0), 40);
        Checks.same("previous offset", x.setPosition(0, 0, 0, 0), 40);
        for (int offset : Refusal.outside(-40, 40)) {
            Refusal.argument("setPosition(0, 0, " + offset + ", 0)", Recipes::busy,
                    y -> y.setPosition(0, 0, offset, 0));
        }
    }

    private static void promise4BreakageIs0To100() {
        TileFactory x = new TileFactory();
        Checks.same("breakage 100", x.setPosition(0, 0, 1, 100), 0);
        Checks.same("breakage is 100", x.position(0, 0, 1), 100);
        Checks.same("breakage 0", x.setPosition(0, 0, 1, 0), 1);
        Checks.same("breakage is 0", x.position(0, 0, 1), 0);
        for (int breakage : Refusal.outside(0, 100)) {
            Refusal.argument("setPosition(0, 0, 0, " + breakage + ")", Recipes::busy,
                    y -> y.setPosition(0, 0, 0, breakage));
        }
    }

    private static void promise4IndexComesFirst() {
        Refusal.index("setPosition(3, 0, 41, 0)", Recipes::busy, y -> y.setPosition(3, 0, 41, 0));
        Refusal.index("setPosition(0, 8, 0, 101)", Recipes::busy, y -> y.setPosition(0, 8, 0, 101));
        Refusal.index("setPosition(-1, 0, 0, -1)", Recipes::busy, y -> y.setPosition(-1, 0, 0, -1));
        Refusal.index("setPosition(0, -1, -41, 0)", Recipes::busy, y -> y.setPosition(0, -1, -41, 0));
    }

    private static void promise5SharpnessIs0To100() {
        TileFactory x = new TileFactory();
        Checks.same("sharpness 0", x.setSharpness(0), 60);
        Checks.same("sharpness is 0", x.total(0), 0);
        Checks.same("sharpness 100", x.setSharpness(100), 0);
        Checks.same("sharpness is 100", x.total(0), 100);
        Checks.same("previous sharpness", x.setSharpness(60), 100);
        for (int sharpness : Refusal.outside(0, 100)) {
            Refusal.argument("setSharpness(" + sharpness + ")", Recipes::busy, y -> y.setSharpness(sharpness));
        }
    }

    private static void promise6SizeIs1To50() {
        TileFactory x = new TileFactory();
        Checks.same("size 1", x.setBoxSize(1), 10);
        Checks.same("size is 1", x.total(1), 1);
        Checks.same("size 50", x.setBoxSize(50), 1);
        Checks.same("size is 50", x.total(1), 50);
        Checks.same("previous size", x.setBoxSize(10), 50);
        for (int tiles : Refusal.outside(1, 50)) {
            Refusal.argument("setBoxSize(" + tiles + ")", TileFactory::new, y -> y.setBoxSize(tiles));
        }
    }

    /** "if a lot has boxes": a single box of any lot is enough; loose tiles, piles and lots without boxes are not. */
    private static void promise6RefusedIfALotHasBoxes() {
        Refusal.state("one box", () -> Recipes.withLot(10, 0), y -> y.setBoxSize(10));
        Refusal.state("one box of the second lot", EdgeSettingsTest::withBoxInSecondLot, y -> y.setBoxSize(5));
        Checks.same("9 loose tiles", Recipes.withLot(9, 0).setBoxSize(5), 10);
        TileFactory x = Recipes.withLot(10, 0);
        x.fire(0, 0, 1000, 1);
        x.drop(0, 8, 1, 10);
        Checks.same("a lot without tiles, and a pile", x.setBoxSize(5), 10);
    }

    private static TileFactory withBoxInSecondLot() {
        TileFactory x = Recipes.withLot(9, 0);
        x.fire(0, 1, 1000, 11);
        x.grade(1);
        x.pack();
        return x;
    }

    /** "or boxes of a delivery are out" */
    private static void promise6RefusedIfBoxesAreOut() {
        Refusal.state("a box is out", EdgeSettingsTest::withOneBoxOut, y -> y.setBoxSize(10));
        Refusal.state("a box of the second delivery is out", EdgeSettingsTest::withSecondDeliveryOut,
                y -> y.setBoxSize(5));
        TileFactory x = withOneBoxOut();
        x.takeBack(0, 1, 0);
        Checks.same("no box is out", x.setBoxSize(5), 10);
        Checks.same("the delivery is still there", x.delivery(0, 1), 1);
    }

    private static TileFactory withOneBoxOut() {
        TileFactory x = Recipes.withLot(10, 0);
        x.deliver(0, 1, 1);
        return x;
    }

    private static TileFactory withSecondDeliveryOut() {
        TileFactory x = Recipes.withLot(20, 0);
        x.deliver(0, 1, 1);
        x.deliver(0, 1, 1);
        x.takeBack(0, 1, 0);
        return x;
    }

    private static void promise6ArgumentComesFirst() {
        Refusal.argument("setBoxSize(0) with boxes", Recipes::busy, y -> y.setBoxSize(0));
        Refusal.argument("setBoxSize(51) with boxes", Recipes::busy, y -> y.setBoxSize(51));
        Refusal.argument("setBoxSize(51) with a box out", EdgeSettingsTest::withOneBoxOut, y -> y.setBoxSize(51));
    }

    /** "saves the state from before the call, even if the call changes nothing" */
    private static void promises2To6SaveThoughNothingChanges() {
        TileFactory x = new TileFactory();
        x.setGlaze(0, 8, 10);
        Checks.same("saved by setGlaze", x.total(12), 1);
        x.setQuality(0, 10, 100);
        Checks.same("saved by setQuality", x.total(12), 2);
        x.setPosition(0, 0, 0, 0);
        Checks.same("saved by setPosition", x.total(12), 3);
        x.setSharpness(60);
        Checks.same("saved by setSharpness", x.total(12), 4);
        x.setBoxSize(10);
        Checks.same("saved by setBoxSize", x.total(12), 5);
    }
}
