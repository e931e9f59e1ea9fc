/** Promises 7 to 9 at their edges, with the Terms of glazes, kilns, firing, grading and boxes. */
public final class EdgeBenchTest {
    public static void main(String[] args) {
        promise7KilnIs0To2();
        promise7GlazeIs0To3();
        promise7PeakIs800To1200();
        promise7TilesAre1To100();
        promise7IndexComesFirst();
        promise7AtMost2000Firings();
        shadeIsRoundedDownEvenIfNegative();
        shadeIsAtLeast0();
        shadeIsAtMost19();
        temperatureInKiln2();
        brokenTilesAreRoundedDown();
        hiddenDefectsAreRoundedDown();
        hiddenDefectsAreOfTilesThatDoNotBreak();
        aPileBeginsWithItsFirstTile();
        noPileIfAllTilesBreak();
        pilesAreNumberedFrom0AfterAGrading();
        promise8PassesAre1To10();
        promise8RefusedWithoutAPile();
        promise8ArgumentComesFirst();
        foundTilesAreRoundedUp();
        passesGoOnUntilOneFindsNothing();
        aLotToWhichNoTileIsAddedIsNotCreated();
        grade1IsCreatedFirst();
        lotsExistForever();
        boxesAreFilledFromFullTens();
        promise9PacksNothing();
        promise9PacksEachLotByItself();
        Checks.finish();
    }

    private static void lotIs(TileFactory x, int lot, int... due) {
        for (int property = 0; property < 6; property++) {
            Checks.same("lot " + lot + " " + property, x.lot(lot, property), due[property]);
        }
    }

    private static void promise7KilnIs0To2() {
        TileFactory x = new TileFactory();
        x.setPosition(0, 0, 0, 100);
        x.setPosition(2, 7, 0, 100);
        Checks.same("kiln 0", x.fire(0, 0, 1000, 3), 3);
        Checks.same("kiln 1", x.fire(1, 0, 1000, 4), 0);
        Checks.same("kiln 2", x.fire(2, 0, 1000, 5), 5);
        Checks.same("broken in kiln 0", x.position(0, 0, 2), 3);
        Checks.same("broken in kiln 2", x.position(2, 7, 2), 5);
        for (int kiln : Refusal.outside(0, 2)) {
            Refusal.index("fire in kiln " + kiln, Recipes::busy, y -> y.fire(kiln, 0, 1000, 1));
        }
    }

    private static void promise7GlazeIs0To3() {
        TileFactory x = new TileFactory();
        x.fire(0, 0, 1000, 1);
        x.fire(0, 3, 1000, 1);
        Checks.same("glaze 0", x.pile(0, 0), 0);
        Checks.same("glaze 3", x.pile(1, 0), 3);
        for (int glaze : Refusal.outside(0, 3)) {
            Refusal.index("fire with glaze " + glaze, Recipes::busy, y -> y.fire(0, glaze, 1000, 1));
        }
    }

    private static void promise7PeakIs800To1200() {
        TileFactory x = new TileFactory();
        x.setGlaze(0, 8, 2);
        x.fire(0, 0, 800, 1);
        x.fire(0, 0, 1200, 1);
        Checks.same("peak 800: 8 - 4", x.pile(0, 1), 4);
        Checks.same("peak 1200: 8 + 4", x.pile(1, 1), 12);
        for (int peak : Refusal.outside(800, 1200)) {
            Refusal.argument("fire with peak " + peak, Recipes::busy, y -> y.fire(0, 0, peak, 1));
        }
    }

    private static void promise7TilesAre1To100() {
        TileFactory x = new TileFactory();
        x.fire(0, 0, 1000, 1);
        Checks.same("1 tile at each position", x.total(3), 8);
        x.fire(0, 0, 1000, 100);
        Checks.same("100 tiles at each position", x.total(3), 808);
        Checks.same("all on the bench", x.total(5), 808);
        for (int tiles : Refusal.outside(1, 100)) {
            Refusal.argument("fire of " + tiles + " tiles", Recipes::busy, y -> y.fire(0, 0, 1000, tiles));
        }
    }

    private static void promise7IndexComesFirst() {
        Refusal.index("fire(3, 0, 799, 1)", Recipes::busy, y -> y.fire(3, 0, 799, 1));
        Refusal.index("fire(-1, 0, 1000, 0)", Recipes::busy, y -> y.fire(-1, 0, 1000, 0));
        Refusal.index("fire(0, 4, 1000, 101)", Recipes::busy, y -> y.fire(0, 4, 1000, 101));
        Refusal.index("fire(0, -1, 1201, 1)", Recipes::busy, y -> y.fire(0, -1, 1201, 1));
    }

    /** "if 2000 firings have been made": no way leads there within the 512 calls that are promised. */
    private static void promise7AtMost2000Firings() {
        TileFactory x = new TileFactory();
        for (int firing = 1; firing < 2000; firing++) {
            x.fire(0, 0, 1000, 1);
        }
        Checks.same("firing 2000", x.fire(0, 0, 1000, 1), 0);
        String before = View.ofAll(x);
        Checks.raisesState("firing 2001", () -> x.fire(0, 0, 1000, 1));
        Checks.raisesArgument("the argument comes first", () -> x.fire(0, 0, 799, 1));
        Checks.raisesIndex("the index comes first", () -> x.fire(3, 0, 1000, 1));
        Checks.same("after firing 2001", View.ofAll(x), before);
        Recipes.write(x, "pack;fire 0 0 1000 1;pack");
        Checks.same("firing 2001 in a text", x.execute(), 1);
        Checks.same("firings", x.total(2), 2000);
        x.undo();
        x.undo();
        Checks.same("firing 2000 again", x.fire(0, 0, 1000, 1), 0);
    }

    /** The shade that a firing gives, which must be the one that shadeAt tells. */
    private static int firedShade(int base, int sensitivity, int peak) {
        TileFactory x = new TileFactory();
        x.setGlaze(0, base, sensitivity);
        x.fire(0, 0, peak, 1);
        Checks.same("shadeAt", x.shadeAt(0, 0, 0, peak), x.pile(0, 1));
        return x.pile(0, 1);
    }

    /** "this quotient is rounded down even if it is negative (-1 / 100 is -1)" */
    private static void shadeIsRoundedDownEvenIfNegative() {
        Checks.same("0 / 100", firedShade(8, 1, 1000), 8);
        Checks.same("-1 / 100", firedShade(8, 1, 999), 7);
        Checks.same("-100 / 100", firedShade(8, 1, 900), 7);
        Checks.same("-101 / 100", firedShade(8, 1, 899), 6);
        Checks.same("99 / 100", firedShade(8, 1, 1099), 8);
        Checks.same("100 / 100", firedShade(8, 1, 1100), 9);
        Checks.same("sensitivity 0", firedShade(8, 0, 800), 8);
    }

    /** "if the result is less than 0, the shade is 0" */
    private static void shadeIsAtLeast0() {
        Checks.same("1 - 1", firedShade(1, 1, 900), 0);
        Checks.same("1 - 2", firedShade(1, 1, 899), 0);
        Checks.same("0 - 1", firedShade(0, 1, 999), 0);
        Checks.same("0 - 40", firedShade(0, 20, 800), 0);
        Checks.same("2 - 1", firedShade(2, 1, 900), 1);
    }

    /** "if it is greater than 19, the shade is 19" */
    private static void shadeIsAtMost19() {
        Checks.same("17 + 1", firedShade(17, 1, 1100), 18);
        Checks.same("18 + 1", firedShade(18, 1, 1100), 19);
        Checks.same("18 + 2", firedShade(18, 1, 1200), 19);
        Checks.same("19 + 0", firedShade(19, 1, 1000), 19);
        Checks.same("19 + 40", firedShade(19, 20, 1200), 19);
    }

    /** "in kiln 2, it is the peak plus the offset plus 5 * (position - 3)", which is negative for the first three. */
    private static void temperatureInKiln2() {
        TileFactory x = new TileFactory();
        x.setGlaze(0, 19, 5);
        x.setGlaze(1, 0, 5);
        x.setPosition(2, 0, -40, 0);
        x.setPosition(2, 7, 40, 0);
        x.setPosition(1, 0, -40, 0);
        x.setPosition(1, 7, 40, 0);
        Checks.same("745 degrees: 19 - 13", x.shadeAt(2, 0, 0, 800), 6);
        Checks.same("760 degrees: 19 - 12", x.shadeAt(1, 0, 0, 800), 7);
        Checks.same("1260 degrees: 13", x.shadeAt(2, 7, 1, 1200), 13);
        Checks.same("1240 degrees: 12", x.shadeAt(1, 7, 1, 1200), 12);
        x.setGlaze(2, 10, 20);
        int[] due = {0, 8, 9, 10, 11, 12, 13, 19};
        for (int position = 0; position < 8; position++) {
            Checks.same("position " + position, x.shadeAt(2, position, 2, 1000), due[position]);
        }
        x.fire(2, 2, 1000, 1);
        for (int position = 0; position < 8; position++) {
            Checks.same("pile of position " + position, x.pile(position, 1), due[position]);
        }
    }

    private static void brokenIs(int tiles, int breakage, int due) {
        TileFactory x = new TileFactory();
        x.setPosition(0, 0, 0, breakage);
        String what = breakage + " % of " + tiles;
        Checks.same(what, x.fire(0, 0, 1000, tiles), due);
        Checks.same(what + " there", x.position(0, 0, 2), due);
        Checks.same(what + " of all", x.total(4), due);
        Checks.same(what + " as an event", x.event(0, 1), due);
        Checks.same(what + " of a firing", x.event(0, 0), 1);
        Checks.same(what + " are left", x.total(5), 8 * tiles - due);
        Checks.same(what + " are fired too", x.total(3), 8 * tiles);
    }

    /** "tiles * breakage percentage / 100 break" */
    private static void brokenTilesAreRoundedDown() {
        brokenIs(1, 99, 0);
        brokenIs(1, 100, 1);
        brokenIs(99, 1, 0);
        brokenIs(100, 1, 1);
        brokenIs(100, 0, 0);
        brokenIs(100, 99, 99);
        brokenIs(100, 100, 100);
        brokenIs(50, 1, 0);
        brokenIs(67, 3, 2);
        brokenIs(66, 3, 1);
    }

    private static int hiddenOf(int tiles, int breakage, int defects) {
        TileFactory x = Recipes.withOnePosition(false);
        x.setPosition(0, 0, 0, breakage);
        x.setQuality(0, defects, 100);
        x.fire(0, 0, 1000, tiles);
        return x.pile(0, 3);
    }

    private static void hiddenDefectsAreRoundedDown() {
        Checks.same("99 % of 1", hiddenOf(1, 0, 99), 0);
        Checks.same("100 % of 1", hiddenOf(1, 0, 100), 1);
        Checks.same("1 % of 99", hiddenOf(99, 0, 1), 0);
        Checks.same("1 % of 100", hiddenOf(100, 0, 1), 1);
        Checks.same("0 % of 100", hiddenOf(100, 0, 0), 0);
        Checks.same("99 % of 100", hiddenOf(100, 0, 99), 99);
        Checks.same("100 % of 100", hiddenOf(100, 0, 100), 100);
        TileFactory x = new TileFactory();
        x.fire(0, 0, 1000, 9);
        Checks.same("90 / 100 at each of 8 positions", x.pile(0, 3), 0);
        x.fire(0, 0, 1000, 19);
        Checks.same("190 / 100 at each of 8 positions", x.pile(0, 3), 8);
    }

    /** "Of those that do not break, tiles that do not break * defect percentage / 100 have hidden defects" */
    private static void hiddenDefectsAreOfTilesThatDoNotBreak() {
        Checks.same("50 % of 5", hiddenOf(10, 50, 50), 2);
        Checks.same("100 % of 5", hiddenOf(10, 50, 100), 5);
        Checks.same("50 % of 2", hiddenOf(3, 34, 50), 1);
        Checks.same("99 % of 1", hiddenOf(100, 99, 99), 0);
    }

    /** "The positions are processed in ascending order"; a pile "exists as long as it contains tiles". */
    private static void aPileBeginsWithItsFirstTile() {
        TileFactory x = new TileFactory();
        x.setPosition(0, 0, 20, 100);
        x.setPosition(0, 7, -20, 99);
        x.fire(0, 0, 1000, 1);
        Checks.same("piles of positions 1 and 7", x.total(9), 2);
        Checks.same("position 1", x.pile(0, 1), 8);
        Checks.same("7 tiles but one", x.pile(0, 2), 6);
        Checks.same("position 7", x.pile(1, 1), 6);
        Checks.same("its single tile", x.pile(1, 2), 1);
        x.setPosition(0, 0, 20, 99);
        x.fire(0, 0, 1000, 1);
        Checks.same("the pile of position 0 comes last", x.pile(2, 1), 10);
        Checks.same("piles then", x.total(9), 3);
    }

    private static void noPileIfAllTilesBreak() {
        TileFactory x = Recipes.withOnePosition(false);
        x.setPosition(0, 0, 0, 100);
        Checks.same("all break", x.fire(0, 0, 1000, 100), 800);
        Checks.same("no pile", x.total(9), 0);
        Checks.same("no tiles on the bench", x.total(5), 0);
        Checks.same("event", x.event(0, 1), 800);
        Checks.same("fired", x.total(3), 800);
        Checks.same("firings", x.total(2), 1);
        Checks.raisesIndex("pile 0", () -> x.pile(0, 0));
        Checks.raisesState("grade", () -> x.grade(1));
        Checks.same("nothing to hide", x.wouldHide(1), 0);
    }

    private static void pilesAreNumberedFrom0AfterAGrading() {
        TileFactory x = new TileFactory();
        x.fire(0, 0, 1000, 1);
        x.fire(0, 1, 1000, 1);
        x.grade(1);
        Checks.raisesIndex("the graded pile 0", () -> x.pile(0, 0));
        x.fire(0, 1, 1000, 2);
        Checks.same("the new pile 0", x.pile(0, 0), 1);
        Checks.same("has only its own tiles", x.pile(0, 2), 16);
        Checks.same("and defects", x.pile(0, 3), 0);
        Checks.raisesIndex("pile 1", () -> x.pile(1, 0));
    }

    private static void promise8PassesAre1To10() {
        Checks.same("1 pass", foundIn(100, 1, 1), 1);
        Checks.same("10 passes", foundIn(100, 1, 10), 10);
        for (int passes : Refusal.outside(1, 10)) {
            Refusal.argument("grade(" + passes + ")", Recipes::busy, y -> y.grade(passes));
        }
    }

    private static void promise8RefusedWithoutAPile() {
        Refusal.state("grade of a new object", TileFactory::new, y -> y.grade(1));
        Refusal.state("grade of a graded bench", () -> Recipes.withLot(10, 0), y -> y.grade(10));
        TileFactory x = Recipes.withLot(10, 0);
        x.fire(0, 0, 1000, 1);
        Checks.same("a pile of a single tile", x.grade(1), 0);
    }

    private static void promise8ArgumentComesFirst() {
        Refusal.argument("grade(0) without a pile", TileFactory::new, y -> y.grade(0));
        Refusal.argument("grade(11) without a pile", TileFactory::new, y -> y.grade(11));
    }

    /** How many tiles so many passes find, which must be what wouldHide does not tell. */
    private static int foundIn(int hidden, int sharpness, int passes) {
        TileFactory x = Recipes.withOnePosition(true);
        x.setSharpness(sharpness);
        x.fire(0, 0, 1000, hidden);
        int wouldHide = x.wouldHide(passes);
        int found = x.grade(passes);
        Checks.same("wouldHide", wouldHide, hidden - found);
        Checks.same("number of the event", x.event(0, 1), found);
        Checks.same("kind of the event", x.event(0, 0), 2);
        int second = x.findLot(0, 8, 2);
        Checks.same("second grade tiles", second == TileFactory.NONE ? 0 : x.lot(second, 3), found);
        int first = x.findLot(0, 8, 1);
        Checks.same("first grade tiles", first == TileFactory.NONE ? 0 : x.lot(first, 3), hidden - found);
        Checks.same("hidden defects", first == TileFactory.NONE ? 0 : x.lot(first, 5), hidden - found);
        return found;
    }

    /** "(hidden defects * sharpness / 100, rounded up)" */
    private static void foundTilesAreRoundedUp() {
        Checks.same("1 % of 1", foundIn(1, 1, 1), 1);
        Checks.same("1 % of 100", foundIn(100, 1, 1), 1);
        Checks.same("2 % of 50", foundIn(50, 2, 1), 1);
        Checks.same("2 % of 51", foundIn(51, 2, 1), 2);
        Checks.same("3 % of 33", foundIn(33, 3, 1), 1);
        Checks.same("3 % of 34", foundIn(34, 3, 1), 2);
        Checks.same("99 % of 100", foundIn(100, 99, 1), 99);
        Checks.same("100 % of 100", foundIn(100, 100, 1), 100);
        Checks.same("0 % of 100", foundIn(100, 0, 1), 0);
    }

    /** "A pass that finds nothing is the last one of this pile." */
    private static void passesGoOnUntilOneFindsNothing() {
        Checks.same("99 and 1", foundIn(100, 99, 2), 100);
        Checks.same("nothing is left to find", foundIn(100, 99, 10), 100);
        Checks.same("2 of 3", foundIn(3, 60, 1), 2);
        Checks.same("2 and 1 of 3", foundIn(3, 60, 2), 3);
        Checks.same("blunt", foundIn(100, 0, 10), 0);
        Checks.same("9 passes", foundIn(100, 1, 9), 9);
        TileFactory x = new TileFactory();
        x.setQuality(1, 0, 100);
        x.fire(0, 1, 1000, 10);
        x.fire(0, 0, 1000, 10);
        Checks.same("the pile behind one without defects", x.grade(10), 8);
    }

    private static void aLotToWhichNoTileIsAddedIsNotCreated() {
        TileFactory x = Recipes.withOnePosition(true);
        x.setSharpness(100);
        x.fire(0, 0, 1000, 1);
        x.grade(1);
        Checks.same("a single lot", x.total(10), 1);
        lotIs(x, 0, 0, 8, 2, 1, 0, 0);
        Checks.same("none of grade 1", x.findLot(0, 8, 1), TileFactory.NONE);
        x.setSharpness(0);
        x.fire(0, 0, 1100, 1);
        x.grade(10);
        Checks.same("one lot more", x.total(10), 2);
        lotIs(x, 1, 0, 18, 1, 1, 0, 1);
        Checks.same("none of grade 2", x.findLot(0, 18, 2), TileFactory.NONE);
    }

    /** "of the two lots of a pile, the one with the grade 1 is created first" */
    private static void grade1IsCreatedFirst() {
        TileFactory x = Recipes.withOnePosition(true);
        x.setSharpness(50);
        x.fire(0, 0, 1000, 2);
        x.grade(1);
        lotIs(x, 0, 0, 8, 1, 1, 0, 1);
        lotIs(x, 1, 0, 8, 2, 1, 0, 0);
        x.setSharpness(100);
        x.fire(0, 0, 1100, 2);
        x.grade(1);
        x.setSharpness(0);
        x.fire(0, 0, 1100, 2);
        x.grade(1);
        lotIs(x, 2, 0, 18, 2, 2, 0, 0);
        lotIs(x, 3, 0, 18, 1, 2, 0, 2);
    }

    /** "they exist forever": a lot without tiles keeps its number, and gets tiles again. */
    private static void lotsExistForever() {
        TileFactory x = Recipes.withLot(10, 100);
        x.deliver(0, 1, 1);
        lotIs(x, 0, 0, 8, 1, 0, 0, 0);
        Checks.same("lots", x.total(10), 1);
        Checks.same("lots of the glaze", x.glaze(0, 4), 1);
        Checks.same("its tiles", x.glaze(0, 5), 0);
        Checks.same("it is found", x.findLot(0, 8, 1), 0);
        x.fire(0, 1, 1000, 5);
        x.fire(0, 0, 1000, 5);
        x.grade(1);
        lotIs(x, 0, 0, 8, 1, 5, 0, 5);
        lotIs(x, 1, 1, 8, 1, 5, 0, 0);
        Checks.same("lots then", x.total(10), 2);
    }

    private static void packedIs(int tiles, int size, int boxes, int loose) {
        TileFactory x = Recipes.withOnePosition(false);
        x.setBoxSize(size);
        x.fire(0, 0, 1000, tiles);
        x.grade(1);
        String what = tiles + " tiles in boxes of " + size;
        Checks.same(what, x.pack(), boxes);
        Checks.same(what + ", boxes", x.lot(0, 4), boxes);
        Checks.same(what + ", loose", x.lot(0, 3), loose);
        Checks.same(what + ", content", x.glaze(0, 5), tiles);
        Checks.same(what + ", packed again", x.pack(), 0);
    }

    /** "as many boxes as possible are filled from the loose tiles of each lot" */
    private static void boxesAreFilledFromFullTens() {
        packedIs(9, 10, 0, 9);
        packedIs(10, 10, 1, 0);
        packedIs(11, 10, 1, 1);
        packedIs(19, 10, 1, 9);
        packedIs(20, 10, 2, 0);
        packedIs(1, 1, 1, 0);
        packedIs(100, 1, 100, 0);
        packedIs(49, 50, 0, 49);
        packedIs(50, 50, 1, 0);
        packedIs(99, 50, 1, 49);
        packedIs(100, 50, 2, 0);
    }

    private static void promise9PacksNothing() {
        TileFactory x = new TileFactory();
        Checks.same("no lot", x.pack(), 0);
        Checks.same("is saved", x.total(12), 1);
        x.fire(0, 0, 1000, 100);
        Checks.same("a pile is no lot", x.pack(), 0);
        Checks.same("the pile stays", x.pile(0, 2), 800);
        TileFactory y = Recipes.withLot(10, 100);
        Checks.same("all is packed", y.pack(), 0);
        Checks.same("hidden defects stay", y.lot(0, 5), 10);
    }

    /** A box holds tiles of a single lot: 9 loose tiles here and 9 there fill none. */
    private static void promise9PacksEachLotByItself() {
        TileFactory x = Recipes.withOnePosition(false);
        x.fire(0, 0, 1000, 9);
        x.fire(0, 0, 1010, 9);
        x.fire(0, 1, 1000, 10);
        x.grade(10);
        Checks.same("9, 9, 9 and 1 loose tiles", x.pack(), 0);
        x.fire(0, 1, 1000, 1);
        x.fire(0, 0, 1010, 1);
        x.grade(10);
        Checks.same("9, 10, 10 and 1", x.pack(), 2);
        Checks.same("the first one has none", x.lot(0, 4), 0);
        Checks.same("the second one has one", x.lot(1, 4), 1);
        Checks.same("the third one has one", x.lot(2, 4), 1);
    }
}
