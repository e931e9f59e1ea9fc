/** Promises 10 to 13 at their edges, with the Terms of lots, values, deliveries and events of breaking. */
public final class EdgeDeliveryTest {
    public static void main(String[] args) {
        promise10GlazeIs0To3();
        promise10GradeIs1Or2();
        promise10BoxesAre1To100000();
        promise10RefusedIfNoLotHasEnough();
        promise10RefusedAfter40();
        promise10OrderOfExceptions();
        aLotThatHasAtLeastSoManyBoxes();
        theLotWithTheFewestBoxes();
        theSmallestShadeOfSeveral();
        complaintsAreRoundedDown();
        complaintsOfAWholeLot();
        complaintsAreComputedAsLong();
        grade2HasNoHiddenDefects();
        valueOfGrade2IsHalfRoundedDown();
        valueIsLong();
        promise11NoSuchLot();
        promise11BrokenIs0ToTheSizeOfABox();
        promise11RefusedIfTheLotHasNoBox();
        promise11TheLastBox();
        promise11ArgumentComesFirst();
        noEventFor0Tiles();
        hiddenDefectsAreAtMostTheContent();
        promise12NoSuchDelivery();
        promise12BoxesAre1To100000();
        promise12BrokenIs0ToTheTilesOfTheseBoxes();
        promise12RefusedIfFewerAreOut();
        promise12OrderOfExceptions();
        promise12ComplaintsDoNotChange();
        promise13NoSuchDelivery();
        promise13RefusedWithoutComplaints();
        promise13RefusedWithFewerLooseTiles();
        promise13IndexComesFirst();
        promise13HiddenDefectsAreAtMostTheContent();
        Checks.finish();
    }

    private static void promise10GlazeIs0To3() {
        TileFactory x = new TileFactory();
        x.fire(0, 0, 1000, 9);
        x.fire(0, 3, 1000, 9);
        x.grade(10);
        x.pack();
        x.deliver(0, 1, 1);
        x.deliver(3, 1, 1);
        Checks.same("lot of glaze 0", x.delivery(0, 0), 0);
        Checks.same("lot of glaze 3", x.delivery(1, 0), 1);
        for (int glaze : Refusal.outside(0, 3)) {
            Refusal.index("deliver of glaze " + glaze, Recipes::busy, y -> y.deliver(glaze, 1, 1));
        }
    }

    private static void promise10GradeIs1Or2() {
        TileFactory x = Recipes.busy();
        x.deliver(0, 1, 1);
        x.deliver(0, 2, 1);
        Checks.same("lot of grade 1", x.delivery(1, 0), 0);
        Checks.same("lot of grade 2", x.delivery(2, 0), 1);
        for (int grade : Refusal.outside(1, 2)) {
            Refusal.argument("deliver of grade " + grade, Recipes::busy, y -> y.deliver(0, grade, 1));
        }
    }

    private static void promise10BoxesAre1To100000() {
        for (int boxes : Refusal.outside(1, 100000)) {
            Refusal.argument("deliver of " + boxes + " boxes", Recipes::busy, y -> y.deliver(0, 1, boxes));
        }
        TileFactory x = Recipes.withFirings(126, 1, false);
        Checks.same("boxes", x.largest(0, 1), 100800);
        Checks.raisesArgument("100001 of 100800 boxes", () -> x.deliver(0, 1, 100001));
        Checks.same("100000 boxes", x.deliver(0, 1, 100000), 0);
        Checks.same("boxes left", x.lot(0, 4), 800);
        Checks.same("boxes that are out", x.delivery(0, 2), 100000);
        Checks.same("a single box", x.deliver(0, 1, 1), 1);
    }

    private static void promise10RefusedIfNoLotHasEnough() {
        Refusal.state("a new object", TileFactory::new, y -> y.deliver(0, 1, 1));
        Refusal.state("6 boxes of 5", Recipes::busy, y -> y.deliver(0, 1, 6));
        Refusal.state("4 boxes of 3", Recipes::busy, y -> y.deliver(0, 2, 4));
        Refusal.state("100000 boxes", Recipes::busy, y -> y.deliver(0, 1, 100000));
        Refusal.state("a glaze without lots", Recipes::busy, y -> y.deliver(1, 1, 1));
        Refusal.state("a glaze that is only on the bench", Recipes::busy, y -> y.deliver(3, 1, 1));
        Refusal.state("loose tiles alone", () -> Recipes.withLot(9, 0), y -> y.deliver(0, 1, 1));
        Refusal.state("3 boxes of two lots with 2", EdgeDeliveryTest::withTwoLots, y -> y.deliver(0, 1, 3));
    }

    /** Lots 0 and 1 with 2 boxes each, of the shades 8 and 9. */
    private static TileFactory withTwoLots() {
        TileFactory x = Recipes.withLot(20, 0);
        x.fire(0, 0, 1010, 20);
        x.grade(1);
        x.pack();
        return x;
    }

    /** "at most 40 are made", also if all boxes of some have come back. */
    private static void promise10RefusedAfter40() {
        TileFactory x = Recipes.withFirings(1, 1, false);
        for (int delivery = 0; delivery < 40; delivery++) {
            Checks.same("number", x.deliver(0, 1, 1), delivery);
        }
        x.takeBack(0, 1, 0);
        x.takeBack(39, 1, 0);
        Checks.raisesState("delivery 41", () -> x.deliver(0, 1, 1));
        Checks.raisesState("delivery 41 of a lot without boxes", () -> x.deliver(1, 2, 1));
        Checks.raisesArgument("the argument comes first", () -> x.deliver(0, 1, 0));
        Checks.raisesIndex("the index comes first", () -> x.deliver(4, 1, 1));
        Checks.same("boxes that are left", x.lot(0, 4), 760);
        Checks.same("loose tiles that are left", x.lot(0, 3), 2);
        Checks.same("tiles with customers", x.total(8), 38);
        Checks.same("the latest event", x.event(0, 1), 39);
        Checks.same("the last delivery", x.delivery(39, 1), 1);
        Checks.raisesIndex("no delivery behind it", () -> x.delivery(40, 1));
        Recipes.write(x, "pack;ship 0 1 1;pack");
        Checks.same("delivery 41 in a text", x.execute(), 1);
        Checks.same("deliveries", x.total(11), 40);
        x.undo();
        x.undo();
        x.undo();
        x.undo();
        Checks.same("after undo", x.total(11), 39);
        Checks.same("delivery 40 again", x.deliver(0, 1, 1), 39);
        Checks.raisesState("delivery 41 again", () -> x.deliver(0, 1, 1));
    }

    private static void promise10OrderOfExceptions() {
        Refusal.index("glaze before grade", Recipes::busy, y -> y.deliver(4, 0, 1));
        Refusal.index("glaze before boxes", Recipes::busy, y -> y.deliver(-1, 1, 0));
        Refusal.index("glaze before the state", TileFactory::new, y -> y.deliver(4, 1, 1));
        Refusal.argument("grade before the state", TileFactory::new, y -> y.deliver(0, 3, 1));
        Refusal.argument("boxes before the state", TileFactory::new, y -> y.deliver(0, 1, 100001));
    }

    private static void aLotThatHasAtLeastSoManyBoxes() {
        TileFactory x = Recipes.withLot(30, 0);
        Checks.same("all 3 boxes", x.deliver(0, 1, 3), 0);
        Checks.same("none is left", x.lot(0, 4), 0);
        Checks.raisesState("one more", () -> x.deliver(0, 1, 1));
        TileFactory y = Recipes.withLot(30, 0);
        Checks.same("2 of 3 boxes", y.deliver(0, 1, 2), 0);
        Checks.same("the last one", y.deliver(0, 1, 1), 1);
    }

    /** Lots 0, 1 and 2 with 3, 2 and 4 boxes, of the shades 8, 9 and 7. */
    private static TileFactory withThreeLots() {
        TileFactory x = Recipes.withLot(30, 0);
        x.fire(0, 0, 1010, 20);
        x.fire(0, 0, 990, 40);
        x.grade(1);
        x.pack();
        return x;
    }

    /** "the lot with the fewest boxes is taken among the lots ... that have at least so many boxes" */
    private static void theLotWithTheFewestBoxes() {
        for (int boxes = 1; boxes <= 4; boxes++) {
            TileFactory x = withThreeLots();
            x.deliver(0, 1, boxes);
            Checks.same("lot of " + boxes + " boxes", x.delivery(0, 0), boxes <= 2 ? 1 : boxes == 3 ? 0 : 2);
        }
    }

    /** "among several of these, the one with the smallest shade", not the one with the smallest number. */
    private static void theSmallestShadeOfSeveral() {
        TileFactory x = withTwoLots();
        x.deliver(0, 1, 2);
        Checks.same("shade 8 before 9", x.delivery(0, 0), 0);
        TileFactory y = Recipes.withLot(20, 0);
        y.fire(0, 0, 800, 20);
        y.fire(0, 0, 1200, 20);
        y.grade(1);
        y.pack();
        int[] due = {1, 0, 2};
        for (int delivery = 0; delivery < 3; delivery++) {
            y.deliver(0, 1, 2);
            Checks.same("shades 0, 8 and 19", y.delivery(delivery, 0), due[delivery]);
        }
        TileFactory z = withThreeLots();
        z.deliver(0, 1, 4);
        z.deliver(0, 1, 3);
        Checks.same("a lot with more boxes has none now", z.largest(0, 1), 2);
        Checks.same("the only one", z.deliver(0, 1, 2), 2);
        Checks.same("its lot", z.delivery(2, 0), 1);
    }

    /** "hidden defects * (tiles of the delivery) / (content of the lot before the delivery) become complaints" */
    private static void complaintsAreRoundedDown() {
        TileFactory x = Recipes.withLot(30, 7);
        // 2 hidden of 30 tiles: 2 * 10 / 30 = 0, then 2 * 10 / 20 = 1, then 1 * 10 / 10 = 1
        int[] due = {0, 1, 1};
        int[] left = {2, 1, 0};
        for (int delivery = 0; delivery < 3; delivery++) {
            x.deliver(0, 1, 1);
            Checks.same("complaints " + delivery, x.delivery(delivery, 3), due[delivery]);
            Checks.same("hidden defects left", x.lot(0, 5), left[delivery]);
        }
        TileFactory y = Recipes.withLot(29, 100);
        y.deliver(0, 1, 2);
        Checks.same("loose tiles belong to the content", y.delivery(0, 3), 20);
        Checks.same("the loose tiles keep theirs", y.lot(0, 5), 9);
        TileFactory z = Recipes.withLot(30, 0);
        z.deliver(0, 1, 3);
        Checks.same("no hidden defects", z.delivery(0, 3), 0);
    }

    private static void complaintsOfAWholeLot() {
        TileFactory x = Recipes.withLot(30, 57);
        Checks.same("hidden defects", x.lot(0, 5), 17);
        x.deliver(0, 1, 3);
        Checks.same("all of them", x.delivery(0, 3), 17);
        Checks.same("none is left", x.lot(0, 5), 0);
        TileFactory y = Recipes.withLot(10, 100);
        y.deliver(0, 1, 1);
        Checks.same("every tile", y.delivery(0, 3), 10);
    }

    /** "(computed as long numbers)": the products are 50400 * 50400 and 70400 * 70400, beyond 31 and 32 bits. */
    private static void complaintsAreComputedAsLong() {
        TileFactory x = Recipes.withFirings(63, 10, true);
        x.deliver(0, 1, 5040);
        Checks.same("all of 50400", x.delivery(0, 3), 50400);
        TileFactory y = Recipes.withFirings(88, 10, true);
        y.deliver(0, 1, 7040);
        Checks.same("all of 70400", y.delivery(0, 3), 70400);
        TileFactory z = Recipes.withFirings(88, 10, true);
        z.deliver(0, 1, 3520);
        Checks.same("half of 70400", z.delivery(0, 3), 35200);
        Checks.same("the other half", z.lot(0, 5), 35200);
    }

    /** "a number of hidden defects, which is 0 for the grade 2" */
    private static void grade2HasNoHiddenDefects() {
        TileFactory x = Recipes.withOnePosition(true);
        x.setSharpness(90);
        x.fire(0, 0, 1000, 100);
        x.grade(1);
        x.pack();
        Checks.same("second grade tiles", x.lot(1, 4), 9);
        Checks.same("hidden defects", x.lot(1, 5), 0);
        x.deliver(0, 2, 9);
        Checks.same("complaints", x.delivery(0, 3), 0);
        Checks.raisesState("nothing to replace", () -> x.replace(0));
    }

    private static void valueOfGrade2Is(int price, long due) {
        TileFactory x = Recipes.withOnePosition(true);
        x.setSharpness(100);
        x.setBoxSize(1);
        x.setQuality(0, 100, price);
        x.fire(0, 0, 1000, 3);
        x.grade(1);
        x.pack();
        Checks.same("3 tiles at " + price, x.total(13), 3 * due);
        x.deliver(0, 2, 3);
        Checks.same("delivery at " + price, x.delivery(0, 4), 3 * due);
        Checks.same("deliveries at " + price, x.total(14), 3 * due);
        Checks.same("nothing is left", x.total(13), 0);
    }

    /** "half of this price for the grade 2", for each tile. */
    private static void valueOfGrade2IsHalfRoundedDown() {
        valueOfGrade2Is(0, 0);
        valueOfGrade2Is(1, 0);
        valueOfGrade2Is(2, 1);
        valueOfGrade2Is(3, 1);
        valueOfGrade2Is(9999, 4999);
    }

    /** 215200 tiles at 9999 are 2151784800, beyond 31 bits. */
    private static void valueIsLong() {
        TileFactory x = Recipes.withFirings(269, 10, false);
        Checks.same("present value", x.total(13), 2151784800L);
        x.deliver(0, 1, 21520);
        Checks.same("value of the delivery", x.delivery(0, 4), 2151784800L);
        Checks.same("value of all", x.total(14), 2151784800L);
        x.setQuality(0, 0, 0);
        Checks.same("by the price when it was made", x.delivery(0, 4), 2151784800L);
        x.takeBack(0, 21520, 0);
        Checks.same("by the present price", x.total(13), 0);
        Checks.same("as it was made", x.total(14), 2151784800L);
    }

    /** "if there is no lot with this glaze, shade and grade", also if a number is out of its range. */
    private static void promise11NoSuchLot() {
        for (int glaze : Refusal.outside(0, 3)) {
            Refusal.index("drop of glaze " + glaze, Recipes::busy, y -> y.drop(glaze, 8, 1, 0));
        }
        for (int shade : Refusal.outside(0, 19)) {
            Refusal.index("drop of shade " + shade, Recipes::busy, y -> y.drop(0, shade, 1, 0));
        }
        for (int grade : Refusal.outside(1, 2)) {
            Refusal.index("drop of grade " + grade, Recipes::busy, y -> y.drop(0, 8, grade, 0));
        }
        Refusal.index("another glaze", Recipes::busy, y -> y.drop(3, 8, 1, 0));
        Refusal.index("another shade", Recipes::busy, y -> y.drop(0, 7, 1, 0));
        Refusal.index("no lot before the argument", Recipes::busy, y -> y.drop(0, 7, 1, 7));
        Refusal.index("no second grade", () -> Recipes.withLot(10, 0), y -> y.drop(0, 8, 2, 0));
        TileFactory x = new TileFactory();
        x.setSharpness(0);
        x.setBoxSize(1);
        x.fire(0, 0, 800, 1);
        x.fire(0, 3, 1200, 1);
        x.grade(1);
        x.pack();
        Checks.same("glaze 0, shade 0", x.drop(0, 0, 1, 0), 7);
        Checks.same("glaze 3, shade 19", x.drop(3, 19, 1, 1), 7);
    }

    private static void promise11BrokenIs0ToTheSizeOfABox() {
        TileFactory x = Recipes.busy();
        Checks.same("none of 6", x.drop(0, 8, 1, 0), 4);
        Checks.same("6 loose tiles more", x.lot(0, 3), 14);
        Checks.same("all of 6", x.drop(0, 8, 1, 6), 3);
        Checks.same("no loose tile more", x.lot(0, 3), 14);
        for (int broken : Refusal.outside(0, 6)) {
            Refusal.argument("drop with " + broken + " of 6", Recipes::busy, y -> y.drop(0, 8, 1, broken));
        }
        TileFactory one = Recipes.withFirings(1, 1, false);
        Checks.raisesArgument("2 of 1", () -> one.drop(0, 8, 1, 2));
        Checks.same("1 of 1", one.drop(0, 8, 1, 1), 799);
        TileFactory fifty = Recipes.withFirings(1, 50, false);
        Checks.raisesArgument("51 of 50", () -> fifty.drop(0, 8, 1, 51));
        Checks.same("50 of 50", fifty.drop(0, 8, 1, 50), 15);
    }

    private static void promise11RefusedIfTheLotHasNoBox() {
        Refusal.state("9 loose tiles", () -> Recipes.withLot(9, 0), y -> y.drop(0, 8, 1, 0));
        Refusal.state("a lot without tiles", EdgeDeliveryTest::withAllDelivered, y -> y.drop(0, 8, 1, 0));
        Refusal.state("another grade has boxes", Recipes::busy, y -> y.drop(0, 9, 2, 0));
    }

    private static TileFactory withAllDelivered() {
        TileFactory x = Recipes.withLot(10, 100);
        x.deliver(0, 1, 1);
        return x;
    }

    private static void promise11TheLastBox() {
        TileFactory x = Recipes.withLot(20, 0);
        Checks.same("one is left", x.drop(0, 8, 1, 10), 1);
        Checks.same("none is left", x.drop(0, 8, 1, 10), 0);
        Checks.same("content", x.glaze(0, 5), 0);
        Checks.same("the lot exists", x.findLot(0, 8, 1), 0);
        Checks.raisesState("no box", () -> x.drop(0, 8, 1, 0));
    }

    private static void promise11ArgumentComesFirst() {
        Refusal.argument("broken -1 without a box", () -> Recipes.withLot(9, 0), y -> y.drop(0, 8, 1, -1));
        Refusal.argument("broken 11 without a box", () -> Recipes.withLot(9, 0), y -> y.drop(0, 8, 1, 11));
    }

    /** "there is no such event for 0 tiles" */
    private static void noEventFor0Tiles() {
        TileFactory x = Recipes.withLot(30, 0);
        x.drop(0, 8, 1, 0);
        Checks.same("drop without broken tiles", x.event(0, 0), 2);
        x.drop(0, 8, 1, 1);
        Checks.same("drop with one", x.event(0, 0), 4);
        Checks.same("its number", x.event(0, 1), 1);
        x.deliver(0, 1, 1);
        x.takeBack(0, 1, 0);
        Checks.same("takeBack without broken tiles", x.event(0, 0), 3);
        x.undo();
        x.takeBack(0, 1, 1);
        Checks.same("takeBack with one", x.event(0, 0), 4);
        Checks.same("number of takeBack", x.event(0, 1), 1);
        Checks.same("event before it", x.event(1, 0), 3);
        Checks.same("broken so far: 210 in the kiln, 1 and 1", x.total(4), 212);
        Checks.same("a firing of none", x.fire(1, 0, 1000, 1), 0);
        Checks.same("has an event", x.event(0, 0), 1);
        x.grade(1);
        Checks.same("a grading that finds none has one", x.event(0, 0), 2);
        Checks.same("number of the grading", x.event(0, 1), 0);
    }

    /** "Whenever the content of a lot becomes less than its hidden defects, the hidden defects become equal to it." */
    private static void hiddenDefectsAreAtMostTheContent() {
        TileFactory x = Recipes.withLot(20, 95);
        Checks.same("19 of 20", x.lot(0, 5), 19);
        x.drop(0, 8, 1, 1);
        Checks.same("19 of 19", x.lot(0, 5), 19);
        x.drop(0, 8, 1, 1);
        Checks.same("18 of 18", x.lot(0, 5), 18);
        TileFactory y = Recipes.withLot(20, 95);
        y.drop(0, 8, 1, 2);
        Checks.same("one too many", y.lot(0, 5), 18);
        TileFactory z = Recipes.withLot(10, 100);
        z.drop(0, 8, 1, 10);
        Checks.same("no content", z.lot(0, 5), 0);
        TileFactory w = Recipes.withLot(20, 95);
        w.drop(0, 8, 1, 0);
        Checks.same("no tile broke", w.lot(0, 5), 19);
    }

    private static void promise12NoSuchDelivery() {
        Refusal.index("takeBack of a new object", TileFactory::new, y -> y.takeBack(0, 1, 0));
        for (int delivery : Refusal.outside(0, 0)) {
            Refusal.index("takeBack of delivery " + delivery, Recipes::busy, y -> y.takeBack(delivery, 1, 0));
        }
        TileFactory x = Recipes.busy();
        x.deliver(0, 2, 1);
        Checks.same("the last delivery", x.takeBack(1, 1, 0), 0);
        Checks.same("the first delivery", x.takeBack(0, 1, 0), 1);
        Checks.raisesIndex("delivery 2", () -> x.takeBack(2, 1, 0));
        x.undo();
        x.undo();
        x.undo();
        Checks.raisesIndex("a delivery that was undone", () -> x.takeBack(1, 1, 0));
    }

    private static void promise12BoxesAre1To100000() {
        for (int boxes : Refusal.outside(1, 100000)) {
            Refusal.argument("takeBack of " + boxes + " boxes", Recipes::busy, y -> y.takeBack(0, boxes, 0));
        }
        TileFactory x = Recipes.withFirings(125, 1, false);
        x.deliver(0, 1, 100000);
        Checks.same("1 box", x.takeBack(0, 1, 0), 99999);
        x.undo();
        Checks.raisesArgument("100001 boxes", () -> x.takeBack(0, 100001, 0));
        Checks.same("100000 boxes", x.takeBack(0, 100000, 100000), 0);
        Checks.same("all are broken", x.total(4), 100000);
    }

    /** "0 to the tiles of these boxes", which are those that shall come back, not those that are out. */
    private static void promise12BrokenIs0ToTheTilesOfTheseBoxes() {
        for (int broken : Refusal.outside(0, 6)) {
            Refusal.argument(broken + " of 1 box", Recipes::busy, y -> y.takeBack(0, 1, broken));
        }
        for (int broken : Refusal.outside(0, 12)) {
            Refusal.argument(broken + " of 2 boxes", Recipes::busy, y -> y.takeBack(0, 2, broken));
        }
        TileFactory x = Recipes.busy();
        Checks.same("none of 1 box", x.takeBack(0, 1, 0), 1);
        Checks.same("6 loose tiles more", x.lot(0, 3), 14);
        Checks.same("all of 1 box", x.takeBack(0, 1, 6), 0);
        Checks.same("no loose tile more", x.lot(0, 3), 14);
        TileFactory y = Recipes.busy();
        Checks.same("all of 2 boxes", y.takeBack(0, 2, 12), 0);
        Checks.same("no loose tile more of 2", y.lot(0, 3), 8);
    }

    private static void promise12RefusedIfFewerAreOut() {
        Refusal.state("3 boxes of 2", Recipes::busy, y -> y.takeBack(0, 3, 0));
        Refusal.state("100000 boxes of 2", Recipes::busy, y -> y.takeBack(0, 100000, 600000));
        Refusal.state("1 box of none", EdgeDeliveryTest::withNoneOut, y -> y.takeBack(0, 1, 0));
        TileFactory x = Recipes.busy();
        Checks.same("2 boxes of 2", x.takeBack(0, 2, 0), 0);
    }

    private static TileFactory withNoneOut() {
        TileFactory x = Recipes.busy();
        x.takeBack(0, 2, 1);
        return x;
    }

    private static void promise12OrderOfExceptions() {
        Refusal.index("delivery before boxes", Recipes::busy, y -> y.takeBack(1, 0, 0));
        Refusal.index("delivery before broken", Recipes::busy, y -> y.takeBack(-1, 1, -1));
        Refusal.argument("broken before the state", Recipes::busy, y -> y.takeBack(0, 3, 19));
        Refusal.state("as many broken as there would be", Recipes::busy, y -> y.takeBack(0, 3, 18));
        Refusal.argument("600001 of 100000 boxes", Recipes::busy, y -> y.takeBack(0, 100000, 600001));
        Refusal.argument("no boxes of none", EdgeDeliveryTest::withNoneOut, y -> y.takeBack(0, 0, 0));
    }

    /** "Complaints do not change.", and the hidden defects of the lot neither. */
    private static void promise12ComplaintsDoNotChange() {
        TileFactory x = Recipes.busy();
        x.takeBack(0, 2, 12);
        Checks.same("complaints", x.delivery(0, 3), 5);
        Checks.same("hidden defects", x.lot(0, 5), 12);
        Checks.same("replace without boxes out", x.replace(0), 5);
    }

    private static void promise13NoSuchDelivery() {
        Refusal.index("replace of a new object", TileFactory::new, y -> y.replace(0));
        for (int delivery : Refusal.outside(0, 0)) {
            Refusal.index("replace of delivery " + delivery, Recipes::busy, y -> y.replace(delivery));
        }
        TileFactory x = Recipes.withLot(30, 20);
        x.deliver(0, 1, 1);
        x.deliver(0, 1, 1);
        x.drop(0, 8, 1, 0);
        Checks.same("the last delivery", x.replace(1), 2);
        Checks.same("the first delivery", x.replace(0), 2);
        Checks.raisesIndex("delivery 2", () -> x.replace(2));
    }

    private static void promise13RefusedWithoutComplaints() {
        Refusal.state("no hidden defects", EdgeDeliveryTest::withoutComplaints, y -> y.replace(0));
        Refusal.state("replaced before", EdgeDeliveryTest::withAllReplaced, y -> y.replace(0));
        TileFactory x = Recipes.withLot(20, 10);
        x.deliver(0, 1, 1);
        x.drop(0, 8, 1, 0);
        Checks.same("a single complaint", x.replace(0), 1);
        Checks.same("none then", x.delivery(0, 3), 0);
    }

    private static TileFactory withoutComplaints() {
        TileFactory x = Recipes.withLot(19, 0);
        x.deliver(0, 1, 1);
        return x;
    }

    private static TileFactory withAllReplaced() {
        TileFactory x = Recipes.busy();
        x.replace(0);
        return x;
    }

    /** Delivery 0 has 10 complaints; its lot has so many loose tiles left, and a box. */
    private static TileFactory withLoose(int tiles) {
        TileFactory x = Recipes.withLot(30, 100);
        x.deliver(0, 1, 1);
        x.drop(0, 8, 1, 10 - tiles);
        return x;
    }

    /** "or its lot has fewer loose tiles": its boxes do not count, nor do other lots. */
    private static void promise13RefusedWithFewerLooseTiles() {
        Refusal.state("9 loose tiles for 10", () -> withLoose(9), y -> y.replace(0));
        Refusal.state("no loose tile for 10", () -> withLoose(0), y -> y.replace(0));
        Refusal.state("loose tiles of another lot", EdgeDeliveryTest::withOtherLoose, y -> y.replace(0));
        TileFactory x = withLoose(10);
        Checks.same("10 loose tiles for 10", x.replace(0), 10);
        Checks.same("no loose tile is left", x.lot(0, 3), 0);
        Checks.same("the box is left", x.lot(0, 4), 1);
        Checks.same("event", x.event(0, 0), 4);
        Checks.same("its number", x.event(0, 1), 10);
        Checks.same("tiles with customers", x.total(8), 10);
        Checks.same("all that broke: 210 in the kiln and 10", x.total(4), 220);
    }

    private static TileFactory withOtherLoose() {
        TileFactory x = withLoose(9);
        x.fire(0, 0, 1010, 50);
        x.grade(1);
        return x;
    }

    private static void promise13IndexComesFirst() {
        Refusal.index("delivery 1 with no complaints at all", EdgeDeliveryTest::withoutComplaints, y -> y.replace(1));
        Refusal.index("delivery -1 with no complaints at all", EdgeDeliveryTest::withoutComplaints, y -> y.replace(-1));
    }

    private static void hiddenAfterReplaceIs(int defects, int complaints, int hidden) {
        TileFactory x = Recipes.withLot(30, defects);
        x.deliver(0, 1, 1);
        x.drop(0, 8, 1, 0);
        Checks.same("complaints with " + defects, x.replace(0), complaints);
        Checks.same("hidden with " + defects, x.lot(0, 5), hidden);
        Checks.same("content with " + defects, x.glaze(0, 5), 20 - complaints);
    }

    private static void promise13HiddenDefectsAreAtMostTheContent() {
        // 15 hidden: 5 complaints, 10 of 15; 20: 6, 14 of 14; 21: 7, 14 would be of 13; 30: 10, 20 would be of 10
        hiddenAfterReplaceIs(50, 5, 10);
        hiddenAfterReplaceIs(67, 6, 14);
        hiddenAfterReplaceIs(70, 7, 13);
        hiddenAfterReplaceIs(100, 10, 10);
    }
}
