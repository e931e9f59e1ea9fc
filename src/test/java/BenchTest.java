/** Promises 7 to 9: firing, grading, packing. */
public final class BenchTest {
    public static void main(String[] args) {
        promise7Fire();
        promise7PilesInOrder();
        promise7PileGrows();
        promise7NoPileWithoutTiles();
        promise7Refuses();
        promise7AtMost2000();
        promise8Grade();
        promise8StopsEarly();
        promise8LotsInOrder();
        promise8AllLots();
        promise8Refuses();
        promise9Pack();
        Checks.finish();
    }

    private static void pileIs(TileFactory x, int pile, int... due) {
        for (int property = 0; property < 4; property++) {
            Checks.same("pile " + pile + " " + property, x.pile(pile, property), due[property]);
        }
    }

    private static void lotIs(TileFactory x, int lot, int... due) {
        for (int property = 0; property < 6; property++) {
            Checks.same("lot " + lot + " " + property, x.lot(lot, property), due[property]);
        }
    }

    private static void promise7Fire() {
        TileFactory x = new TileFactory();
        x.setQuality(1, 35, 100);
        x.setPosition(0, 2, 0, 25);
        // 19 * 25 / 100 = 4 break; 7 * (19 * 35 / 100 = 6) + 15 * 35 / 100 = 5 have hidden defects
        Checks.same("fire", x.fire(0, 1, 1000, 19), 4);
        pileIs(x, 0, 1, 8, 148, 47);
        Checks.same("piles", x.total(9), 1);
        Checks.same("firings", x.total(2), 1);
        Checks.same("fired", x.total(3), 152);
        Checks.same("broken", x.total(4), 4);
        Checks.same("bench", x.total(5), 148);
        Checks.same("broken there", x.position(0, 2, 2), 4);
        Checks.same("broken elsewhere", x.position(1, 2, 2), 0);
        Checks.same("event kind", x.event(0, 0), 1);
        Checks.same("event number", x.event(0, 1), 4);
        Checks.same("saved", x.total(12), 3);
        Checks.same("fire elsewhere", x.fire(1, 1, 1000, 1), 0);
        Checks.same("event of a firing without broken tiles", x.event(0, 1), 0);
        x.fire(0, 1, 1000, 19);
        Checks.same("broken there so far", x.position(0, 2, 2), 8);
    }

    private static void promise7PilesInOrder() {
        TileFactory x = new TileFactory();
        x.setGlaze(2, 4, 20);
        // kiln 2: 985, 990, 995, 1000, 1005, 1010, 1015, 1020; shades 4 - 3, 4 - 2, 4 - 1, 4, 5, 6, 7, 8
        x.fire(2, 2, 1000, 10);
        Checks.same("piles", x.total(9), 8);
        for (int pile = 0; pile < 8; pile++) {
            pileIs(x, pile, 2, pile + 1, 10, 1);
        }
        // an older pile keeps its number; the two new ones come behind
        x.fire(2, 2, 1010, 10);
        Checks.same("piles then", x.total(9), 10);
        pileIs(x, 0, 2, 1, 10, 1);
        pileIs(x, 2, 2, 3, 20, 2);
        pileIs(x, 8, 2, 9, 10, 1);
        pileIs(x, 9, 2, 10, 10, 1);
    }

    private static void promise7PileGrows() {
        TileFactory x = new TileFactory();
        x.fire(0, 0, 1000, 9);
        x.fire(0, 1, 1000, 10);
        x.fire(1, 0, 1000, 10);
        Checks.same("a pile for each glaze", x.total(9), 2);
        // 9 * 10 / 100 is 0 at each position
        pileIs(x, 0, 0, 8, 152, 8);
        pileIs(x, 1, 1, 8, 80, 8);
    }

    private static void promise7NoPileWithoutTiles() {
        TileFactory x = new TileFactory();
        for (int position = 0; position < 8; position++) {
            x.setPosition(0, position, 0, 100);
        }
        Checks.same("all break", x.fire(0, 0, 1000, 100), 800);
        Checks.same("no pile", x.total(9), 0);
        Checks.same("broken", x.total(4), 800);
        Checks.raisesState("nothing to grade", () -> x.grade(1));
    }

    private static void promise7Refuses() {
        TileFactory x = new TileFactory();
        Checks.raisesIndex("kiln -1", () -> x.fire(-1, 0, 1000, 1));
        Checks.raisesIndex("kiln 3", () -> x.fire(3, 0, 0, 0));
        Checks.raisesIndex("glaze -1", () -> x.fire(0, -1, 1000, 1));
        Checks.raisesIndex("glaze 4", () -> x.fire(0, 4, 0, 0));
        Checks.raisesArgument("peak 799", () -> x.fire(0, 0, 799, 1));
        Checks.raisesArgument("peak 1201", () -> x.fire(0, 0, 1201, 1));
        Checks.raisesArgument("tiles 0", () -> x.fire(0, 0, 1000, 0));
        Checks.raisesArgument("tiles 101", () -> x.fire(0, 0, 1000, 101));
        Checks.same("nothing saved", x.total(12), 0);
        Checks.same("no event", x.event(0, 0), TileFactory.NONE);
        Checks.same("lowest", x.fire(0, 0, 800, 1), 0);
        Checks.same("highest", x.fire(2, 3, 1200, 100), 0);
    }

    /** Beyond the 512 calls that are promised, but the limit can be met in no other way. */
    private static void promise7AtMost2000() {
        TileFactory x = new TileFactory();
        for (int firing = 0; firing < 2000; firing++) {
            x.fire(0, 0, 1000, 100);
        }
        Checks.raisesState("firing 2001", () -> x.fire(0, 0, 1000, 100));
        Checks.raisesArgument("argument first", () -> x.fire(0, 0, 1000, 101));
        Checks.same("firings", x.total(2), 2000);
        Checks.same("fired", x.total(3), 1600000);
        x.undo();
        Checks.same("after undo", x.fire(0, 0, 1000, 100), 0);
    }

    private static void promise8Grade() {
        TileFactory x = new TileFactory();
        x.setQuality(0, 50, 100);
        x.fire(0, 0, 1000, 5);
        // 40 tiles, 16 hidden; 60 % rounded up: 10, then 4 of 6, then 2 of 2
        Checks.same("would hide 1", x.wouldHide(1), 6);
        Checks.same("grade", x.grade(2), 14);
        lotIs(x, 0, 0, 8, 1, 26, 0, 2);
        lotIs(x, 1, 0, 8, 2, 14, 0, 0);
        Checks.same("lots", x.total(10), 2);
        Checks.same("piles", x.total(9), 0);
        Checks.same("bench", x.total(5), 0);
        Checks.same("event kind", x.event(0, 0), 2);
        Checks.same("event number", x.event(0, 1), 14);
        Checks.same("saved", x.total(12), 3);
        x.fire(0, 0, 1000, 5);
        Checks.same("grade again", x.grade(1), 10);
        lotIs(x, 0, 0, 8, 1, 56, 0, 8);
        lotIs(x, 1, 0, 8, 2, 24, 0, 0);
        x.fire(0, 0, 1000, 5);
        Checks.same("three passes find all", x.grade(3), 16);
    }

    private static void promise8StopsEarly() {
        TileFactory x = new TileFactory();
        x.setSharpness(0);
        x.fire(0, 0, 1000, 10);
        Checks.same("blunt", x.grade(10), 0);
        Checks.same("one lot", x.total(10), 1);
        Checks.same("hidden ones stay in grade 1", x.lot(0, 5), 8);
        Checks.same("event of a grading that finds nothing", x.event(0, 0), 2);
        x.setSharpness(1);
        x.fire(0, 0, 1000, 10);
        Checks.same("one in each pass, rounded up", x.grade(3), 3);
        x.setSharpness(100);
        x.setQuality(1, 100, 100);
        x.fire(0, 1, 1000, 10);
        Checks.same("sharp", x.grade(1), 80);
        Checks.same("no lot of grade 1", x.findLot(1, 8, 1), TileFactory.NONE);
        Checks.same("a lot of grade 2", x.findLot(1, 8, 2), 2);
    }

    private static void promise8LotsInOrder() {
        TileFactory x = new TileFactory();
        x.setQuality(0, 0, 100);
        x.fire(0, 0, 1000, 10);
        x.fire(0, 1, 1000, 10);
        x.fire(0, 0, 1010, 10);
        Checks.same("grade", x.grade(10), 8);
        lotIs(x, 0, 0, 8, 1, 80, 0, 0);
        lotIs(x, 1, 1, 8, 1, 72, 0, 0);
        lotIs(x, 2, 1, 8, 2, 8, 0, 0);
        lotIs(x, 3, 0, 9, 1, 80, 0, 0);
        Checks.same("lots", x.total(10), 4);
    }

    /** Every glaze, shade and grade: 80 piles, 160 lots. */
    private static void promise8AllLots() {
        TileFactory x = new TileFactory();
        x.setSharpness(1);
        for (int glaze = 3; glaze >= 0; glaze--) {
            for (int shade = 19; shade >= 0; shade--) {
                x.setGlaze(glaze, shade, 0);
                x.fire(0, glaze, 1000, 10);
            }
        }
        Checks.same("piles", x.total(9), 80);
        pileIs(x, 79, 0, 0, 80, 8);
        Checks.same("one of each pile", x.grade(1), 80);
        Checks.same("lots", x.total(10), 160);
        lotIs(x, 158, 0, 0, 1, 79, 0, 7);
        lotIs(x, 159, 0, 0, 2, 1, 0, 0);
        Checks.same("lots of a glaze", x.glaze(2, 4), 40);
        Checks.same("pack", x.pack(), 80 * 7);
        Checks.same("smallest shade", x.deliver(3, 1, 7), 0);
        Checks.same("its lot", x.delivery(0, 0), 38);
        x.fire(0, 0, 1000, 10);
        x.grade(10);
        Checks.same("no more lots", x.total(10), 160);
        lotIs(x, 159, 0, 0, 2, 9, 0, 0);
    }

    private static void promise8Refuses() {
        TileFactory x = new TileFactory();
        Checks.raisesState("no pile", () -> x.grade(1));
        Checks.raisesArgument("argument first", () -> x.grade(11));
        x.fire(0, 0, 1000, 10);
        Checks.raisesArgument("passes 0", () -> x.grade(0));
        Checks.raisesArgument("passes 11", () -> x.grade(11));
        Checks.same("saved", x.total(12), 1);
        Checks.same("passes 10", x.grade(10), 8);
        Checks.raisesState("the bench is empty", () -> x.grade(1));
    }

    private static void promise9Pack() {
        TileFactory x = new TileFactory();
        Checks.same("nothing to pack", x.pack(), 0);
        Checks.same("saved though nothing changed", x.total(12), 1);
        x.fire(0, 0, 1000, 11);
        x.fire(0, 1, 1000, 10);
        x.grade(10);
        // 88 - 8 and 8 of glaze 0, 80 - 8 and 8 of glaze 1
        Checks.same("pack", x.pack(), 15);
        lotIs(x, 0, 0, 8, 1, 0, 8, 0);
        lotIs(x, 1, 0, 8, 2, 8, 0, 0);
        lotIs(x, 2, 1, 8, 1, 2, 7, 0);
        Checks.same("pack again", x.pack(), 0);
        x.fire(0, 1, 1000, 1);
        x.grade(1);
        Checks.same("with what was loose before", x.pack(), 1);
        lotIs(x, 2, 1, 8, 1, 0, 8, 0);
        Checks.same("no event of packing", x.event(0, 0), 2);
    }
}
