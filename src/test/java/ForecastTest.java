/** Promises 23 to 27: what would be. */
public final class ForecastTest {
    public static void main(String[] args) {
        promise23ShadeAt();
        promise23Refuses();
        promise24BestPeak();
        promise24Refuses();
        promise25Largest();
        promise26Possible();
        promise26Refuses();
        promise27WouldHide();
        Checks.finish();
    }

    private static void promise23ShadeAt() {
        TileFactory x = new TileFactory();
        Checks.same("at 1000", x.shadeAt(0, 0, 0, 1000), 8);
        Checks.same("10 * 9 / 100", x.shadeAt(0, 0, 0, 1009), 8);
        Checks.same("10 * 10 / 100", x.shadeAt(0, 0, 0, 1010), 9);
        Checks.same("-10 / 100 is -1", x.shadeAt(0, 0, 0, 999), 7);
        Checks.same("-100 / 100 is -1", x.shadeAt(0, 0, 0, 990), 7);
        Checks.same("-110 / 100 is -2", x.shadeAt(0, 0, 0, 989), 6);
        Checks.same("at most 19", x.shadeAt(0, 0, 0, 1200), 19);
        Checks.same("at least 0", x.shadeAt(0, 0, 0, 800), 0);
        Checks.same("kiln 1", x.shadeAt(1, 7, 0, 1000), 8);
        Checks.same("kiln 2, position 0: 985", x.shadeAt(2, 0, 0, 1000), 6);
        Checks.same("kiln 2, position 3: 1000", x.shadeAt(2, 3, 0, 1000), 8);
        Checks.same("kiln 2, position 7: 1020", x.shadeAt(2, 7, 0, 1000), 10);
        x.setPosition(2, 7, -40, 0);
        Checks.same("with an offset: 980", x.shadeAt(2, 7, 0, 1000), 6);
        x.setGlaze(1, 3, 0);
        Checks.same("not sensitive", x.shadeAt(2, 7, 1, 800), 3);
        Checks.same("nothing is fired", x.total(2), 0);
        Checks.same("nothing more is saved", x.total(12), 2);
    }

    private static void promise23Refuses() {
        TileFactory x = new TileFactory();
        Checks.raisesIndex("kiln -1", () -> x.shadeAt(-1, 0, 0, 1000));
        Checks.raisesIndex("kiln 3", () -> x.shadeAt(3, 0, 0, 0));
        Checks.raisesIndex("position -1", () -> x.shadeAt(0, -1, 0, 1000));
        Checks.raisesIndex("position 8", () -> x.shadeAt(0, 8, 0, 0));
        Checks.raisesIndex("glaze -1", () -> x.shadeAt(0, 0, -1, 1000));
        Checks.raisesIndex("glaze 4", () -> x.shadeAt(0, 0, 4, 0));
        Checks.raisesArgument("peak 799", () -> x.shadeAt(0, 0, 0, 799));
        Checks.raisesArgument("peak 1201", () -> x.shadeAt(0, 0, 0, 1201));
    }

    private static void promise24BestPeak() {
        TileFactory x = new TileFactory();
        Checks.same("lowest of several", x.bestPeak(0, 0, 8), 1000);
        Checks.same("shade 7", x.bestPeak(0, 0, 7), 990);
        Checks.same("shade 0", x.bestPeak(0, 0, 0), 800);
        Checks.same("shade 19", x.bestPeak(0, 0, 19), 1110);
        // shade 8 is 1000 to 1009; two positions of kiln 2 at most are in such a range: 1020 at position 7, 1015 at 6
        Checks.same("kiln 2", x.bestPeak(2, 0, 8), 985);
        x.setPosition(0, 0, 40, 0);
        Checks.same("seven of eight", x.bestPeak(0, 0, 8), 1000);
        for (int position = 0; position < 5; position++) {
            x.setPosition(0, position, -30, 0);
        }
        Checks.same("five of eight", x.bestPeak(0, 0, 8), 1030);
        x.setGlaze(1, 5, 0);
        Checks.same("any peak", x.bestPeak(0, 1, 5), 800);
        Checks.same("no peak", x.bestPeak(0, 1, 6), TileFactory.NONE);
        x.setGlaze(1, 0, 1);
        Checks.same("only at the top", x.bestPeak(1, 1, 2), 1200);
        Checks.same("out of reach", x.bestPeak(1, 1, 3), TileFactory.NONE);
        Checks.same("five positions of kiln 2", x.bestPeak(2, 1, 2), 1200);
        for (int position = 1; position < 8; position++) {
            x.setPosition(1, position, -1, 0);
        }
        Checks.same("a single position", x.bestPeak(1, 1, 2), 1200);
    }

    private static void promise24Refuses() {
        TileFactory x = new TileFactory();
        Checks.raisesIndex("kiln -1", () -> x.bestPeak(-1, 0, 0));
        Checks.raisesIndex("kiln 3", () -> x.bestPeak(3, 0, 20));
        Checks.raisesIndex("glaze -1", () -> x.bestPeak(0, -1, 0));
        Checks.raisesIndex("glaze 4", () -> x.bestPeak(0, 4, 20));
        Checks.raisesArgument("shade -1", () -> x.bestPeak(0, 0, -1));
        Checks.raisesArgument("shade 20", () -> x.bestPeak(0, 0, 20));
    }

    /** Lots of glaze 0 and grade 1 with 24, 16, 16 and 8 boxes. */
    private static TileFactory withLots() {
        TileFactory x = new TileFactory();
        x.setSharpness(0);
        x.setBoxSize(1);
        x.fire(0, 0, 1000, 2);
        x.fire(0, 0, 1010, 3);
        x.fire(0, 0, 1020, 1);
        x.fire(0, 0, 1030, 2);
        x.grade(1);
        x.pack();
        return x;
    }

    private static void promise25Largest() {
        TileFactory x = withLots();
        Checks.same("largest", x.largest(0, 1), 24);
        Checks.same("another grade", x.largest(0, 2), 0);
        Checks.same("another glaze", x.largest(3, 1), 0);
        x.deliver(0, 1, 24);
        Checks.same("largest then", x.largest(0, 1), 16);
        Checks.raisesIndex("glaze -1", () -> x.largest(-1, 1));
        Checks.raisesIndex("glaze 4", () -> x.largest(4, 0));
        Checks.raisesArgument("grade 0", () -> x.largest(0, 0));
        Checks.raisesArgument("grade 3", () -> x.largest(0, 3));
        x.setQuality(1, 100, 100);
        x.setSharpness(100);
        x.fire(0, 1, 1000, 1);
        x.grade(1);
        Checks.same("loose tiles are no boxes", x.largest(1, 2), 0);
        x.pack();
        Checks.same("grade 2", x.largest(1, 2), 8);
        Checks.same("not grade 1", x.largest(1, 1), 0);
    }

    private static void promise26Possible() {
        TileFactory x = withLots();
        Checks.same("three lots", x.possible(0, 1, 16, 24, 16), 3);
        Checks.same("all in one", x.possible(0, 1, 8, 8, 8), 3);
        Checks.same("two in one", x.possible(0, 1, 20, 14, 2), 3);
        Checks.same("two too large ones", x.possible(0, 1, 17, 17, 17), 1);
        Checks.same("two of three", x.possible(0, 1, 24, 1, 25), 2);
        Checks.same("none", x.possible(0, 1, 25, 25, 100000), 0);
        Checks.same("the small ones rather than the large one", x.possible(0, 1, 100000, 24, 16), 2);
        Checks.same("no lot", x.possible(1, 1, 1, 1, 1), 0);
        x.deliver(0, 1, 16);
        x.deliver(0, 1, 16);
        // 24 and 8 are left
        Checks.same("10 + 14 and 8", x.possible(0, 1, 10, 8, 14), 3);
        Checks.same("10 + 14 or 10 + 9", x.possible(0, 1, 10, 9, 14), 2);
        Checks.same("16 + 8 and 8", x.possible(0, 1, 16, 8, 8), 3);
        x.deliver(0, 1, 8);
        Checks.same("one lot", x.possible(0, 1, 12, 12, 12), 2);
        Checks.same("nothing changes", x.largest(0, 1), 24);
    }

    private static void promise26Refuses() {
        TileFactory x = withLots();
        Checks.raisesIndex("glaze -1", () -> x.possible(-1, 1, 1, 1, 1));
        Checks.raisesIndex("glaze 4", () -> x.possible(4, 0, 1, 1, 1));
        Checks.raisesArgument("grade 0", () -> x.possible(0, 0, 1, 1, 1));
        Checks.raisesArgument("grade 3", () -> x.possible(0, 3, 1, 1, 1));
        Checks.raisesArgument("a 0", () -> x.possible(0, 1, 0, 1, 1));
        Checks.raisesArgument("b 0", () -> x.possible(0, 1, 1, 0, 1));
        Checks.raisesArgument("c 0", () -> x.possible(0, 1, 1, 1, 0));
        Checks.raisesArgument("a 100001", () -> x.possible(0, 1, 100001, 1, 1));
        Checks.raisesArgument("b 100001", () -> x.possible(0, 1, 1, 100001, 1));
        Checks.raisesArgument("c 100001", () -> x.possible(0, 1, 1, 1, 100001));
        Checks.same("all 100000", x.possible(0, 1, 100000, 100000, 100000), 0);
    }

    private static void promise27WouldHide() {
        TileFactory x = new TileFactory();
        Checks.same("no pile", x.wouldHide(1), 0);
        x.setQuality(0, 50, 100);
        x.fire(0, 0, 1000, 5);
        x.fire(0, 0, 1010, 5);
        // 16 hidden in each pile: 10, 4 and 2 are found
        Checks.same("one pass", x.wouldHide(1), 12);
        Checks.same("two passes", x.wouldHide(2), 4);
        Checks.same("three passes", x.wouldHide(3), 0);
        Checks.same("ten passes", x.wouldHide(10), 0);
        Checks.same("nothing changes", x.pile(1, 3), 16);
        Checks.raisesArgument("passes 0", () -> x.wouldHide(0));
        Checks.raisesArgument("passes 11", () -> x.wouldHide(11));
        x.setSharpness(0);
        Checks.same("blunt", x.wouldHide(10), 32);
        x.grade(10);
        Checks.same("lots do not count", x.wouldHide(1), 0);
    }
}
