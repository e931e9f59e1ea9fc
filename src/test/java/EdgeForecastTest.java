/** Promises 23 to 27 at their edges. */
public final class EdgeForecastTest {
    public static void main(String[] args) {
        promise23KilnIs0To2();
        promise23PositionIs0To7();
        promise23GlazeIs0To3();
        promise23PeakIs800To1200();
        promise23IndexComesFirst();
        promise24KilnIs0To2();
        promise24GlazeIs0To3();
        promise24ShadeIs0To19();
        promise24IndexComesFirst();
        promise24NoneWithAnyPeak();
        promise24LowestAndHighestPeak();
        promise24MostPositions();
        promise24LowestOfSeveral();
        promise25GlazeIs0To3();
        promise25GradeIs1Or2();
        promise25IndexComesFirst();
        promise25NoSuchLotIs0();
        promise26GlazeIs0To3();
        promise26GradeIs1Or2();
        promise26BoxesAre1To100000();
        promise26IndexComesFirst();
        promise26From0To3();
        promise26SeveralOfOneLot();
        promise26ByTheBoxesAlone();
        promise27PassesAre1To10();
        promise27WithoutAPile();
        Checks.finish();
    }

    private static void promise23KilnIs0To2() {
        TileFactory x = new TileFactory();
        x.setPosition(0, 0, 10, 0);
        x.setPosition(1, 0, 20, 0);
        x.setPosition(2, 0, 35, 0);
        Checks.same("kiln 0", x.shadeAt(0, 0, 0, 1000), 9);
        Checks.same("kiln 1", x.shadeAt(1, 0, 0, 1000), 10);
        Checks.same("kiln 2", x.shadeAt(2, 0, 0, 1000), 10);
        for (int kiln : Refusal.outside(0, 2)) {
            Refusal.index("shadeAt in kiln " + kiln, Recipes::busy, y -> y.shadeAt(kiln, 0, 0, 1000));
        }
    }

    private static void promise23PositionIs0To7() {
        TileFactory x = new TileFactory();
        x.setPosition(1, 0, 10, 0);
        x.setPosition(1, 7, -10, 0);
        Checks.same("position 0", x.shadeAt(1, 0, 0, 1000), 9);
        Checks.same("position 7", x.shadeAt(1, 7, 0, 1000), 7);
        for (int position : Refusal.outside(0, 7)) {
            Refusal.index("shadeAt position " + position, Recipes::busy, y -> y.shadeAt(1, position, 0, 1000));
        }
    }

    private static void promise23GlazeIs0To3() {
        TileFactory x = new TileFactory();
        x.setGlaze(0, 1, 0);
        x.setGlaze(3, 2, 0);
        Checks.same("glaze 0", x.shadeAt(0, 0, 0, 1000), 1);
        Checks.same("glaze 3", x.shadeAt(0, 0, 3, 1000), 2);
        for (int glaze : Refusal.outside(0, 3)) {
            Refusal.index("shadeAt with glaze " + glaze, Recipes::busy, y -> y.shadeAt(0, 0, glaze, 1000));
        }
    }

    private static void promise23PeakIs800To1200() {
        TileFactory x = new TileFactory();
        x.setGlaze(0, 8, 2);
        Checks.same("peak 800", x.shadeAt(0, 0, 0, 800), 4);
        Checks.same("peak 1200", x.shadeAt(0, 0, 0, 1200), 12);
        for (int peak : Refusal.outside(800, 1200)) {
            Refusal.argument("shadeAt with peak " + peak, Recipes::busy, y -> y.shadeAt(0, 0, 0, peak));
        }
    }

    private static void promise23IndexComesFirst() {
        Refusal.index("kiln before peak", Recipes::busy, y -> y.shadeAt(3, 0, 0, 799));
        Refusal.index("position before peak", Recipes::busy, y -> y.shadeAt(0, 8, 0, 1201));
        Refusal.index("glaze before peak", Recipes::busy, y -> y.shadeAt(0, 0, -1, 799));
    }

    private static void promise24KilnIs0To2() {
        TileFactory x = new TileFactory();
        for (int position = 0; position < 8; position++) {
            x.setPosition(0, position, -20, 0);
            x.setPosition(2, position, -20, 0);
        }
        Checks.same("kiln 0", x.bestPeak(0, 0, 8), 1020);
        Checks.same("kiln 1", x.bestPeak(1, 0, 8), 1000);
        Checks.same("kiln 2", x.bestPeak(2, 0, 8), 1005);
        for (int kiln : Refusal.outside(0, 2)) {
            Refusal.index("bestPeak in kiln " + kiln, Recipes::busy, y -> y.bestPeak(kiln, 0, 8));
        }
    }

    private static void promise24GlazeIs0To3() {
        TileFactory x = new TileFactory();
        x.setGlaze(0, 7, 10);
        x.setGlaze(3, 9, 10);
        Checks.same("glaze 0", x.bestPeak(0, 0, 8), 1010);
        Checks.same("glaze 3", x.bestPeak(0, 3, 8), 990);
        for (int glaze : Refusal.outside(0, 3)) {
            Refusal.index("bestPeak with glaze " + glaze, Recipes::busy, y -> y.bestPeak(0, glaze, 8));
        }
    }

    private static void promise24ShadeIs0To19() {
        TileFactory x = new TileFactory();
        // shade 0 is reached by all that is colder, shade 19 by all that is hotter
        Checks.same("shade 0", x.bestPeak(0, 0, 0), 800);
        Checks.same("shade 1", x.bestPeak(0, 0, 1), 930);
        Checks.same("shade 18", x.bestPeak(0, 0, 18), 1100);
        Checks.same("shade 19", x.bestPeak(0, 0, 19), 1110);
        for (int shade : Refusal.outside(0, 19)) {
            Refusal.argument("bestPeak for shade " + shade, Recipes::busy, y -> y.bestPeak(0, 0, shade));
        }
    }

    private static void promise24IndexComesFirst() {
        Refusal.index("kiln before shade", Recipes::busy, y -> y.bestPeak(3, 0, 20));
        Refusal.index("glaze before shade", Recipes::busy, y -> y.bestPeak(0, -1, -1));
    }

    /** "NONE if none has it with any peak" */
    private static void promise24NoneWithAnyPeak() {
        TileFactory x = new TileFactory();
        x.setGlaze(0, 5, 0);
        Checks.same("the only shade", x.bestPeak(0, 0, 5), 800);
        Checks.same("the shade below", x.bestPeak(0, 0, 4), TileFactory.NONE);
        Checks.same("the shade above", x.bestPeak(0, 0, 6), TileFactory.NONE);
        Checks.same("shade 0", x.bestPeak(0, 0, 0), TileFactory.NONE);
        Checks.same("shade 19", x.bestPeak(0, 0, 19), TileFactory.NONE);
        x.setGlaze(1, 8, 20);
        Checks.same("steps of 20 leave none out", x.bestPeak(0, 1, 9), 1005);
    }

    /** Of peaks from 800 to 1200 only the first or the last one has the shade. */
    private static void promise24LowestAndHighestPeak() {
        TileFactory x = new TileFactory();
        x.setGlaze(0, 8, 1);
        Checks.same("10 only at 1200", x.bestPeak(0, 0, 10), 1200);
        Checks.same("11 would be at 1300", x.bestPeak(0, 0, 11), TileFactory.NONE);
        Checks.same("6 from 800 on", x.bestPeak(0, 0, 6), 800);
        Checks.same("5 would be at 799", x.bestPeak(0, 0, 5), TileFactory.NONE);
        x.setPosition(1, 0, -1, 0);
        Checks.same("5 at one position with 800", x.bestPeak(1, 0, 5), 800);
        for (int position = 0; position < 8; position++) {
            x.setPosition(1, position, -1, 0);
        }
        Checks.same("10 would be at 1201", x.bestPeak(1, 0, 10), TileFactory.NONE);
        x.setPosition(1, 7, 0, 0);
        Checks.same("10 at one position with 1200", x.bestPeak(1, 0, 10), 1200);
    }

    private static void promise24MostPositions() {
        TileFactory x = new TileFactory();
        for (int position = 0; position < 4; position++) {
            x.setPosition(0, position, 40, 0);
        }
        Checks.same("4 and 4: the lower one", x.bestPeak(0, 0, 8), 960);
        x.setPosition(0, 3, 0, 0);
        Checks.same("3 and 5", x.bestPeak(0, 0, 8), 1000);
        x.setPosition(0, 3, 40, 0);
        x.setPosition(0, 4, 40, 0);
        Checks.same("5 and 3", x.bestPeak(0, 0, 8), 960);
        x.setPosition(0, 4, 39, 0);
        Checks.same("5 with one degree more", x.bestPeak(0, 0, 8), 961);
    }

    private static void promise24LowestOfSeveral() {
        TileFactory x = new TileFactory();
        Checks.same("1000 to 1009", x.bestPeak(0, 0, 8), 1000);
        x.setPosition(0, 5, 1, 0);
        Checks.same("all 8 with 1000 too", x.bestPeak(0, 0, 8), 1000);
        x.setPosition(0, 5, -1, 0);
        Checks.same("all 8 with 1001 first", x.bestPeak(0, 0, 8), 1001);
        x.setPosition(0, 5, -10, 0);
        Checks.same("7 with 1000, and never 8", x.bestPeak(0, 0, 8), 1000);
    }

    private static void promise25GlazeIs0To3() {
        TileFactory x = new TileFactory();
        x.fire(0, 0, 1000, 9);
        x.fire(0, 3, 1000, 5);
        x.grade(10);
        x.pack();
        Checks.same("glaze 0", x.largest(0, 1), 7);
        Checks.same("glaze 3", x.largest(3, 1), 4);
        for (int glaze : Refusal.outside(0, 3)) {
            Refusal.index("largest of glaze " + glaze, Recipes::busy, y -> y.largest(glaze, 1));
        }
    }

    private static void promise25GradeIs1Or2() {
        TileFactory x = Recipes.busy();
        Checks.same("grade 1", x.largest(0, 1), 5);
        Checks.same("grade 2", x.largest(0, 2), 3);
        for (int grade : Refusal.outside(1, 2)) {
            Refusal.argument("largest of grade " + grade, Recipes::busy, y -> y.largest(0, grade));
        }
    }

    private static void promise25IndexComesFirst() {
        Refusal.index("largest(4, 0)", Recipes::busy, y -> y.largest(4, 0));
        Refusal.index("largest(-1, 3)", Recipes::busy, y -> y.largest(-1, 3));
    }

    /** "0 if there is no such lot", and also if such lots have no boxes. */
    private static void promise25NoSuchLotIs0() {
        Checks.same("a new object", new TileFactory().largest(0, 1), 0);
        Checks.same("9 loose tiles", Recipes.withLot(9, 0).largest(0, 1), 0);
        Checks.same("1 box", Recipes.withLot(10, 0).largest(0, 1), 1);
        Checks.same("no second grade", Recipes.withLot(10, 0).largest(0, 2), 0);
        TileFactory x = Recipes.withLot(10, 0);
        x.deliver(0, 1, 1);
        Checks.same("all is delivered", x.largest(0, 1), 0);
        TileFactory y = withThreeLots();
        Checks.same("the greatest of 3, 1 and 2", y.largest(0, 1), 3);
        y.deliver(0, 1, 3);
        Checks.same("the greatest of 0, 1 and 2", y.largest(0, 1), 2);
    }

    /** Lots of glaze 0 and grade 1 with 3, 1 and 2 boxes. */
    private static TileFactory withThreeLots() {
        TileFactory x = Recipes.withLot(30, 0);
        x.fire(0, 0, 1010, 10);
        x.fire(0, 0, 990, 20);
        x.grade(1);
        x.pack();
        return x;
    }

    private static void promise26GlazeIs0To3() {
        TileFactory x = new TileFactory();
        x.fire(0, 0, 1000, 9);
        x.fire(0, 3, 1000, 5);
        x.grade(10);
        x.pack();
        Checks.same("glaze 0", x.possible(0, 1, 7, 7, 7), 1);
        Checks.same("glaze 3", x.possible(3, 1, 2, 2, 2), 2);
        for (int glaze : Refusal.outside(0, 3)) {
            Refusal.index("possible of glaze " + glaze, Recipes::busy, y -> y.possible(glaze, 1, 1, 1, 1));
        }
    }

    private static void promise26GradeIs1Or2() {
        TileFactory x = Recipes.busy();
        Checks.same("grade 1", x.possible(0, 1, 2, 2, 2), 2);
        Checks.same("grade 2", x.possible(0, 2, 2, 2, 2), 1);
        for (int grade : Refusal.outside(1, 2)) {
            Refusal.argument("possible of grade " + grade, Recipes::busy, y -> y.possible(0, grade, 1, 1, 1));
        }
    }

    private static void promise26BoxesAre1To100000() {
        for (int boxes : Refusal.outside(1, 100000)) {
            Refusal.argument("a: " + boxes, Recipes::busy, y -> y.possible(0, 1, boxes, 1, 1));
            Refusal.argument("b: " + boxes, Recipes::busy, y -> y.possible(0, 1, 1, boxes, 1));
            Refusal.argument("c: " + boxes, Recipes::busy, y -> y.possible(0, 1, 1, 1, boxes));
        }
        Checks.same("1 each", Recipes.busy().possible(0, 1, 1, 1, 1), 3);
        Checks.same("100000 each", Recipes.busy().possible(0, 1, 100000, 100000, 100000), 0);
        TileFactory x = Recipes.withFirings(376, 1, false);
        Checks.same("3 * 100000 of 300800", x.possible(0, 1, 100000, 100000, 100000), 3);
        Checks.raisesArgument("100001 of 300800", () -> x.possible(0, 1, 1, 1, 100001));
        TileFactory y = Recipes.withFirings(374, 1, false);
        Checks.same("2 * 100000 of 299200", y.possible(0, 1, 100000, 100000, 100000), 2);
    }

    private static void promise26IndexComesFirst() {
        Refusal.index("glaze before grade", Recipes::busy, y -> y.possible(4, 0, 1, 1, 1));
        Refusal.index("glaze before a", Recipes::busy, y -> y.possible(-1, 1, 0, 1, 1));
        Refusal.index("glaze before b", Recipes::busy, y -> y.possible(4, 1, 1, 100001, 1));
        Refusal.index("glaze before c", Recipes::busy, y -> y.possible(4, 1, 1, 1, 0));
    }

    /** "the greatest number of them that could be made, 0 to 3" */
    private static void promise26From0To3() {
        Checks.same("a new object", new TileFactory().possible(0, 1, 1, 1, 1), 0);
        Checks.same("loose tiles alone", Recipes.withLot(9, 0).possible(0, 1, 1, 1, 1), 0);
        TileFactory x = withThreeLots();
        Checks.same("none", x.possible(0, 1, 4, 4, 4), 0);
        Checks.same("only a", x.possible(0, 1, 3, 4, 4), 1);
        Checks.same("only b", x.possible(0, 1, 4, 3, 4), 1);
        Checks.same("only c", x.possible(0, 1, 4, 4, 3), 1);
        Checks.same("one of three", x.possible(0, 1, 3, 3, 3), 1);
        Checks.same("two of three", x.possible(0, 1, 2, 3, 3), 2);
        Checks.same("a and c", x.possible(0, 1, 2, 4, 2), 2);
        Checks.same("b and c", x.possible(0, 1, 4, 3, 2), 2);
        Checks.same("each lot once", x.possible(0, 1, 1, 2, 3), 3);
        Checks.same("each lot once, turned round", x.possible(0, 1, 3, 2, 1), 3);
        Checks.same("2, 2 and 2", x.possible(0, 1, 2, 2, 2), 2);
        Checks.same("2, 2 and 1", x.possible(0, 1, 2, 2, 1), 3);
    }

    /** "(several can have the same lot)" */
    private static void promise26SeveralOfOneLot() {
        TileFactory x = Recipes.withLot(30, 0);
        Checks.same("1, 1 and 1 of 3", x.possible(0, 1, 1, 1, 1), 3);
        Checks.same("1, 1 and 2 of 3", x.possible(0, 1, 1, 1, 2), 2);
        Checks.same("2, 1 and 1 of 3", x.possible(0, 1, 2, 1, 1), 2);
        Checks.same("3, 1 and 1 of 3", x.possible(0, 1, 3, 1, 1), 2);
        Checks.same("3, 3 and 3 of 3", x.possible(0, 1, 3, 3, 3), 1);
        // a in the smallest lot that fits would leave 3 and 0, where b and c find no room together
        TileFactory y = Recipes.withLot(30, 0);
        y.fire(0, 0, 1010, 20);
        y.grade(1);
        y.pack();
        Checks.same("3 and 2: 1 and 2, 2", y.possible(0, 1, 1, 2, 2), 3);
        Checks.same("3 and 2: 2, 2 and 1", y.possible(0, 1, 2, 2, 1), 3);
        Checks.same("3 and 2: 3 and 1, 1", y.possible(0, 1, 3, 1, 1), 3);
        Checks.same("3 and 2: 2, 2 and 2", y.possible(0, 1, 2, 2, 2), 2);
    }

    /** "by the boxes of the lots alone": the limit of 40 deliveries does not count, and nothing changes. */
    private static void promise26ByTheBoxesAlone() {
        TileFactory x = Recipes.withFirings(1, 1, false);
        for (int delivery = 0; delivery < 40; delivery++) {
            x.deliver(0, 1, 1);
        }
        Checks.same("after 40 deliveries", x.possible(0, 1, 1, 1, 1), 3);
        Checks.same("largest after 40 deliveries", x.largest(0, 1), 760);
        Checks.same("the boxes stay", x.lot(0, 4), 760);
    }

    private static void promise27PassesAre1To10() {
        TileFactory x = Recipes.withOnePosition(true);
        x.setSharpness(1);
        x.fire(0, 0, 1000, 100);
        Checks.same("1 pass", x.wouldHide(1), 99);
        Checks.same("9 passes", x.wouldHide(9), 91);
        Checks.same("10 passes", x.wouldHide(10), 90);
        Checks.same("nothing changes", x.pile(0, 3), 100);
        for (int passes : Refusal.outside(1, 10)) {
            Refusal.argument("wouldHide(" + passes + ")", Recipes::busy, y -> y.wouldHide(passes));
            Refusal.argument("wouldHide(" + passes + ") without a pile", TileFactory::new, y -> y.wouldHide(passes));
        }
    }

    private static void promise27WithoutAPile() {
        Checks.same("a new object", new TileFactory().wouldHide(1), 0);
        Checks.same("hidden defects of a lot", Recipes.withLot(10, 100).wouldHide(10), 0);
        TileFactory x = new TileFactory();
        x.setQuality(0, 0, 1);
        x.fire(0, 0, 1000, 100);
        Checks.same("a pile without defects", x.wouldHide(10), 0);
        x.setSharpness(0);
        x.fire(0, 1, 1000, 10);
        Checks.same("blunt", x.wouldHide(10), 8);
        x.setSharpness(100);
        Checks.same("sharp", x.wouldHide(1), 0);
    }
}
