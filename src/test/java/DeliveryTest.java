/** Promises 10 to 14: deliveries, breaking, returns, undo. */
public final class DeliveryTest {
    public static void main(String[] args) {
        promise10Deliver();
        promise10ChoosesLot();
        promise10ChoosesAmongEqualOnes();
        promise10Complaints();
        promise10Refuses();
        promise10AtMost40();
        promise11Drop();
        promise11LimitsHidden();
        promise11Refuses();
        promise12TakeBack();
        promise12Refuses();
        promise13Replace();
        promise13LimitsHidden();
        promise13Refuses();
        promise14Undo();
        promise14UndoesEveryCall();
        promise14LeavesNothingBehind();
        promise14ForgetsWhatWasUndone();
        promise14RestoresWhatIsWhat();
        promise14AtMostSix();
        Checks.finish();
    }

    /** A lot 0 of glaze 0, shade 8, grade 1 with 8 boxes of 10; all of its tiles have hidden defects, or none. */
    private static TileFactory withBoxes(boolean areHidden) {
        TileFactory x = new TileFactory();
        x.setSharpness(0);
        x.setQuality(0, areHidden ? 100 : 0, 25);
        x.fire(0, 0, 1000, 10);
        x.grade(1);
        x.pack();
        return x;
    }

    private static void deliveryIs(TileFactory x, int delivery, long... due) {
        for (int property = 0; property < 5; property++) {
            Checks.same("delivery " + delivery + " " + property, x.delivery(delivery, property), due[property]);
        }
    }

    private static void promise10Deliver() {
        TileFactory x = withBoxes(false);
        Checks.same("deliver", x.deliver(0, 1, 3), 0);
        deliveryIs(x, 0, 0, 3, 3, 0, 750);
        Checks.same("boxes left", x.lot(0, 4), 5);
        Checks.same("event kind", x.event(0, 0), 3);
        Checks.same("event number", x.event(0, 1), 0);
        Checks.same("deliver again", x.deliver(0, 1, 5), 1);
        Checks.same("second number", x.event(0, 1), 1);
        Checks.same("no boxes left", x.lot(0, 4), 0);
        Checks.same("with customers", x.total(8), 80);
        x.setQuality(0, 0, 9999);
        Checks.same("value when it was made", x.delivery(0, 4), 750);
        Checks.same("values together", x.total(14), 2000);
        Checks.same("lots stay", x.total(10), 1);
    }

    private static void promise10ChoosesLot() {
        TileFactory x = new TileFactory();
        x.setSharpness(0);
        x.setBoxSize(1);
        x.setGlaze(0, 8, 20);
        x.fire(0, 0, 1000, 3);
        x.fire(0, 0, 1010, 2);
        x.fire(0, 0, 990, 2);
        x.fire(0, 1, 1000, 1);
        x.grade(1);
        x.pack();
        // lots 0 to 3: shade 8 with 24 boxes, shade 10 and shade 6 with 16 each, glaze 1 with 8
        Checks.same("first", x.deliver(0, 1, 2), 0);
        Checks.same("fewest boxes, smallest shade", x.delivery(0, 0), 2);
        Checks.same("second", x.deliver(0, 1, 15), 1);
        Checks.same("fewest boxes that are enough", x.delivery(1, 0), 1);
        Checks.same("third", x.deliver(0, 1, 15), 2);
        Checks.same("only lot left", x.delivery(2, 0), 0);
        Checks.raisesState("no single lot has so many", () -> x.deliver(0, 1, 15));
        Checks.same("exactly all", x.deliver(1, 1, 8), 3);
        Checks.same("its lot", x.delivery(3, 0), 3);
        Checks.same("one of 1, 9 and 14", x.deliver(0, 1, 1), 4);
        Checks.same("the one with 1", x.delivery(4, 0), 1);
    }

    private static void promise10ChoosesAmongEqualOnes() {
        TileFactory x = new TileFactory();
        x.fire(0, 0, 1000, 13);
        x.fire(0, 0, 1010, 13);
        x.fire(0, 0, 990, 13);
        x.grade(10);
        x.pack();
        for (int[] due : new int[][] {{4, 0}, {0, 1}, {2, 2}}) {
            Checks.same("nine boxes each", x.largest(0, 1), 9);
            int delivery = x.deliver(0, 1, 9);
            Checks.same("smallest shade that is left", x.delivery(delivery, 0), due[0]);
            Checks.same("number", delivery, due[1]);
        }
    }

    private static void promise10Complaints() {
        TileFactory x = new TileFactory();
        x.setSharpness(0);
        x.setQuality(0, 33, 101);
        x.setBoxSize(7);
        x.fire(0, 0, 1000, 10);
        x.grade(1);
        x.pack();
        // 80 tiles, 24 hidden, 11 boxes and 3 loose
        x.deliver(0, 1, 4);
        Checks.same("24 * 28 / 80", x.delivery(0, 3), 8);
        Checks.same("hidden left", x.lot(0, 5), 16);
        Checks.same("value", x.delivery(0, 4), 2828);
        x.deliver(0, 1, 7);
        Checks.same("16 * 49 / 52", x.delivery(1, 3), 15);
        Checks.same("hidden then", x.lot(0, 5), 1);
        x.setSharpness(100);
        x.fire(1, 0, 1000, 10);
        x.grade(1);
        x.pack();
        x.deliver(0, 2, 2);
        Checks.same("half of the price for a tile", x.delivery(2, 4), 700);
        Checks.same("grade 2 has no complaints", x.delivery(2, 3), 0);
    }

    private static void promise10Refuses() {
        TileFactory x = withBoxes(false);
        String before = View.ofAll(x);
        Checks.raisesIndex("glaze -1", () -> x.deliver(-1, 1, 1));
        Checks.raisesIndex("glaze 4", () -> x.deliver(4, 0, 0));
        Checks.raisesArgument("grade 0", () -> x.deliver(0, 0, 1));
        Checks.raisesArgument("grade 3", () -> x.deliver(0, 3, 1));
        Checks.raisesArgument("boxes 0", () -> x.deliver(0, 1, 0));
        Checks.raisesArgument("boxes 100001", () -> x.deliver(0, 1, 100001));
        Checks.raisesState("boxes 100000", () -> x.deliver(0, 1, 100000));
        Checks.raisesState("boxes 9", () -> x.deliver(0, 1, 9));
        Checks.raisesState("another glaze", () -> x.deliver(1, 1, 1));
        Checks.raisesState("another grade", () -> x.deliver(0, 2, 1));
        Checks.same("after refusals", View.ofAll(x), before);
        Checks.same("boxes 8", x.deliver(0, 1, 8), 0);
    }

    private static void promise10AtMost40() {
        TileFactory x = new TileFactory();
        x.setBoxSize(1);
        x.fire(0, 0, 1000, 100);
        x.grade(1);
        x.pack();
        for (int delivery = 0; delivery < 40; delivery++) {
            Checks.same("deliver", x.deliver(0, 1, 1), delivery);
        }
        Checks.raisesState("delivery 41", () -> x.deliver(0, 1, 1));
        Checks.raisesArgument("argument first", () -> x.deliver(0, 1, 0));
        Checks.same("deliveries", x.total(11), 40);
        x.undo();
        Checks.same("after undo", x.deliver(0, 1, 1), 39);
        Checks.same("latest event", x.event(0, 1), 39);
        Checks.same("oldest event that is kept", x.event(19, 1), 20);
        Checks.same("no event behind it", x.event(20, 1), TileFactory.NONE);
    }

    private static void promise11Drop() {
        TileFactory x = withBoxes(false);
        Checks.same("drop", x.drop(0, 8, 1, 4), 7);
        Checks.same("loose", x.lot(0, 3), 6);
        Checks.same("boxes", x.lot(0, 4), 7);
        Checks.same("broken", x.total(4), 4);
        Checks.same("event kind", x.event(0, 0), 4);
        Checks.same("event number", x.event(0, 1), 4);
        Checks.same("nothing breaks", x.drop(0, 8, 1, 0), 6);
        Checks.same("loose then", x.lot(0, 3), 16);
        Checks.same("no event for 0 tiles", x.event(1, 0), 2);
        Checks.same("all break", x.drop(0, 8, 1, 10), 5);
        Checks.same("loose as before", x.lot(0, 3), 16);
        Checks.same("event of all", x.event(0, 1), 10);
        Checks.same("no position broke them", x.position(0, 0, 2), 0);
        x.deliver(0, 1, 4);
        Checks.same("the last box", x.drop(0, 8, 1, 0), 0);
        Checks.same("undo", x.undo(), 5);
        Checks.same("boxes after undo", x.lot(0, 4), 1);
    }

    private static void promise11LimitsHidden() {
        TileFactory x = withBoxes(true);
        Checks.same("all hidden", x.lot(0, 5), 80);
        x.drop(0, 8, 1, 3);
        Checks.same("as many as the content", x.lot(0, 5), 77);
        x.drop(0, 8, 1, 0);
        Checks.same("none broke", x.lot(0, 5), 77);
        TileFactory y = new TileFactory();
        y.setSharpness(0);
        y.fire(0, 0, 1000, 10);
        y.grade(1);
        y.pack();
        y.drop(0, 8, 1, 10);
        Checks.same("enough content is left", y.lot(0, 5), 8);
    }

    private static void promise11Refuses() {
        TileFactory x = withBoxes(false);
        String before = View.ofAll(x);
        Checks.raisesIndex("another shade", () -> x.drop(0, 7, 1, 0));
        Checks.raisesIndex("another grade", () -> x.drop(0, 8, 2, 0));
        Checks.raisesIndex("another glaze", () -> x.drop(1, 8, 1, 11));
        Checks.raisesIndex("glaze -1", () -> x.drop(-1, 8, 1, 0));
        Checks.raisesIndex("shade 20", () -> x.drop(0, 20, 1, 0));
        Checks.raisesIndex("grade 0", () -> x.drop(0, 8, 0, -1));
        Checks.raisesArgument("broken -1", () -> x.drop(0, 8, 1, -1));
        Checks.raisesArgument("broken 11", () -> x.drop(0, 8, 1, 11));
        Checks.same("after refusals", View.ofAll(x), before);
        x.deliver(0, 1, 8);
        Checks.raisesState("no box", () -> x.drop(0, 8, 1, 10));
        Checks.raisesArgument("argument first", () -> x.drop(0, 8, 1, 11));
    }

    private static void promise12TakeBack() {
        TileFactory x = withBoxes(true);
        x.deliver(0, 1, 4);
        Checks.same("complaints", x.delivery(0, 3), 40);
        Checks.same("takeBack", x.takeBack(0, 1, 4), 3);
        deliveryIs(x, 0, 0, 4, 3, 40, 1000);
        Checks.same("loose", x.lot(0, 3), 6);
        Checks.same("boxes are opened", x.lot(0, 4), 4);
        Checks.same("hidden", x.lot(0, 5), 40);
        Checks.same("broken", x.total(4), 4);
        Checks.same("event kind", x.event(0, 0), 4);
        Checks.same("event number", x.event(0, 1), 4);
        Checks.same("with customers", x.total(8), 30);
        Checks.same("none broken", x.takeBack(0, 1, 0), 2);
        Checks.same("no event for 0 tiles", x.event(1, 0), 3);
        Checks.same("all broken", x.takeBack(0, 2, 20), 0);
        Checks.same("loose at last", x.lot(0, 3), 16);
        Checks.same("no customers", x.total(8), 0);
        Checks.same("all of its boxes", x.delivery(0, 1), 4);
        Checks.same("value stays", x.total(14), 1000);
        x.undo();
        Checks.same("out after undo", x.delivery(0, 2), 2);
    }

    private static void promise12Refuses() {
        TileFactory x = withBoxes(false);
        Checks.raisesIndex("no delivery", () -> x.takeBack(0, 1, 0));
        x.deliver(0, 1, 3);
        String before = View.ofAll(x);
        Checks.raisesIndex("delivery -1", () -> x.takeBack(-1, 1, 0));
        Checks.raisesIndex("delivery 1", () -> x.takeBack(1, 0, -1));
        Checks.raisesArgument("boxes 0", () -> x.takeBack(0, 0, 0));
        Checks.raisesArgument("boxes 100001", () -> x.takeBack(0, 100001, 0));
        Checks.raisesArgument("broken -1", () -> x.takeBack(0, 1, -1));
        Checks.raisesArgument("broken 11 of 10", () -> x.takeBack(0, 1, 11));
        Checks.raisesArgument("broken 41 of 40", () -> x.takeBack(0, 4, 41));
        Checks.raisesState("broken 40 of 40", () -> x.takeBack(0, 4, 40));
        Checks.raisesState("boxes 100000", () -> x.takeBack(0, 100000, 1000000));
        Checks.same("after refusals", View.ofAll(x), before);
        Checks.same("all three", x.takeBack(0, 3, 0), 0);
        Checks.raisesState("none is out", () -> x.takeBack(0, 1, 0));
    }

    private static void promise13Replace() {
        TileFactory x = new TileFactory();
        x.setSharpness(0);
        x.setQuality(0, 25, 10);
        x.setBoxSize(9);
        x.fire(0, 0, 1000, 10);
        x.grade(1);
        x.pack();
        // 80 tiles, 16 hidden, 8 boxes and 8 loose; 16 * 36 / 80 = 7
        x.deliver(0, 1, 4);
        Checks.same("complaints", x.delivery(0, 3), 7);
        Checks.same("replace", x.replace(0), 7);
        deliveryIs(x, 0, 0, 4, 4, 0, 360);
        Checks.same("loose", x.lot(0, 3), 1);
        Checks.same("boxes", x.lot(0, 4), 4);
        Checks.same("hidden", x.lot(0, 5), 9);
        Checks.same("broken", x.total(4), 7);
        Checks.same("event kind", x.event(0, 0), 4);
        Checks.same("event number", x.event(0, 1), 7);
        Checks.same("with customers", x.total(8), 36);
        Checks.raisesState("no complaints then", () -> x.replace(0));
        x.undo();
        Checks.same("complaints after undo", x.delivery(0, 3), 7);
        // 9 * 9 / 44 = 1
        x.deliver(0, 1, 1);
        Checks.same("a single complaint", x.replace(1), 1);
    }

    private static void promise13LimitsHidden() {
        TileFactory x = withBoxes(true);
        x.deliver(0, 1, 3);
        x.drop(0, 8, 1, 0);
        x.drop(0, 8, 1, 0);
        x.drop(0, 8, 1, 0);
        Checks.same("exactly as many loose tiles", x.replace(0), 30);
        Checks.same("loose", x.lot(0, 3), 0);
        Checks.same("hidden", x.lot(0, 5), 20);
    }

    private static void promise13Refuses() {
        TileFactory x = withBoxes(true);
        Checks.raisesIndex("no delivery", () -> x.replace(0));
        x.deliver(0, 1, 2);
        x.drop(0, 8, 1, 0);
        x.drop(0, 8, 1, 1);
        String before = View.ofAll(x);
        Checks.raisesIndex("delivery -1", () -> x.replace(-1));
        Checks.raisesIndex("delivery 1", () -> x.replace(1));
        Checks.raisesState("19 loose tiles for 20", () -> x.replace(0));
        Checks.same("after refusals", View.ofAll(x), before);
        TileFactory y = withBoxes(false);
        y.deliver(0, 1, 2);
        Checks.raisesState("no complaints", () -> y.replace(0));
        TileFactory z = withBoxes(true);
        z.deliver(0, 1, 2);
        z.takeBack(0, 2, 0);
        Checks.same("complaints of boxes that came back", z.replace(0), 20);
    }

    private static void promise14Undo() {
        TileFactory x = withBoxes(true);
        String before = View.ofState(x);
        x.deliver(0, 1, 3);
        String delivered = View.ofState(x);
        x.takeBack(0, 1, 4);
        x.append('a');
        Checks.same("undo", x.undo(), 6 - 1);
        Checks.same("state before takeBack", View.ofState(x), delivered);
        Checks.same("the text stays", x.total(15), 1);
        Checks.same("undo again", x.undo(), 4);
        Checks.same("state before deliver", View.ofState(x), before);
        Checks.raisesArgument("a refused call", () -> x.setSharpness(101));
        Checks.same("saves nothing", x.total(12), 4);
        Checks.same("a new call", x.deliver(0, 1, 1), 0);
        Checks.same("saves the state", x.total(12), 5);
        Checks.same("and is undone", x.undo(), 4);
        Checks.same("state before it", View.ofState(x), before);
    }

    /** Undo brings back all that was seen, and the same call leads to the same state again. */
    private static void undone(TileFactory x, String what, Checks.Call call) {
        String before = View.ofState(x);
        long answer = call.answer();
        String after = View.ofState(x);
        if (after.equals(before)) {
            Checks.fail(what + " changed nothing");
        }
        long saved = x.total(12);
        Checks.same("undo of " + what, x.undo(), saved - 1);
        Checks.same("state after undo of " + what, View.ofState(x), before);
        Checks.same(what + " once more", call.answer(), answer);
        Checks.same("state after " + what + " once more", View.ofState(x), after);
    }

    private static void promise14UndoesEveryCall() {
        TileFactory x = new TileFactory();
        undone(x, "setGlaze", () -> x.setGlaze(0, 9, 11));
        undone(x, "setGlaze of the last", () -> x.setGlaze(3, 0, 20));
        undone(x, "setQuality", () -> x.setQuality(0, 40, 101));
        undone(x, "setPosition", () -> x.setPosition(0, 0, -20, 10));
        undone(x, "setPosition of the last", () -> x.setPosition(2, 7, 1, 30));
        undone(x, "setSharpness", () -> x.setSharpness(30));
        undone(x, "setBoxSize", () -> x.setBoxSize(7));
        undone(x, "fire", () -> x.fire(0, 0, 1000, 30));
        undone(x, "fire on new piles", () -> x.fire(2, 3, 1000, 10));
        undone(x, "fire on the same piles", () -> x.fire(0, 0, 1000, 20));
        undone(x, "grade", () -> x.grade(2));
        undone(x, "pack", x::pack);
        undone(x, "deliver", () -> x.deliver(0, 1, 9));
        undone(x, "deliver again", () -> x.deliver(0, 2, 1));
        undone(x, "drop", () -> x.drop(0, 9, 1, 0));
        undone(x, "drop again", () -> x.drop(0, 9, 1, 0));
        undone(x, "takeBack", () -> x.takeBack(0, 3, 1));
        undone(x, "replace", () -> x.replace(0));
        undone(x, "fire at last", () -> x.fire(0, 0, 1000, 30));
        Checks.same("undo of two calls", x.undo(), 5);
        Checks.same("undo of the second", x.undo(), 4);
        Checks.same("complaints are back", x.delivery(0, 3) > 0 ? 1 : 0, 1);
    }

    private static void promise14LeavesNothingBehind() {
        TileFactory x = withBoxes(true);
        x.fire(0, 1, 1000, 30);
        x.undo();
        x.fire(0, 2, 1000, 10);
        Checks.same("tiles of the new pile", x.pile(0, 2), 80);
        Checks.same("hidden of the new pile", x.pile(0, 3), 8);
        x.grade(1);
        x.pack();
        x.undo();
        x.undo();
        x.undo();
        x.fire(0, 3, 1000, 10);
        x.grade(1);
        int[] due = {3, 8, 1, 80, 0, 8};
        for (int property = 0; property < 6; property++) {
            Checks.same("the new lot " + property, x.lot(1, property), due[property]);
        }
    }

    private static void write(TileFactory x, String text) {
        for (char sign : text.toCharArray()) {
            x.append(sign);
        }
    }

    private static void promise14ForgetsWhatWasUndone() {
        TileFactory x = new TileFactory();
        write(x, "fire 0 1 1000 10;grade 1;pack;ship 1 1 2");
        Checks.same("execute", x.execute(), 4);
        x.undo();
        Checks.same("boxes that were undone", x.largest(1, 1), 0);
        Checks.raisesState("deliver what was undone", () -> x.deliver(1, 1, 1));
        Checks.raisesIndex("drop what was undone", () -> x.drop(1, 8, 1, 0));
        Checks.raisesIndex("take back what was undone", () -> x.takeBack(0, 1, 0));
        Checks.raisesIndex("replace what was undone", () -> x.replace(0));
        Checks.same("lot that was undone", x.findLot(1, 8, 1), TileFactory.NONE);
        x.fire(0, 2, 1000, 1);
        x.grade(1);
        Checks.same("the new lot has no boxes", x.lot(0, 4), 0);
        Checks.same("the new lot has its tiles", x.lot(0, 3), 8);
    }

    /** The same rows hold other piles, lots and deliveries before an undo than behind it. */
    private static void promise14RestoresWhatIsWhat() {
        TileFactory x = new TileFactory();
        for (int glaze = 0; glaze < 4; glaze++) {
            int peak = 1000 + 10 * glaze;
            x.setQuality(glaze, 0, 1 + glaze);
            x.fire(0, glaze, peak, 10 + glaze);
            String bench = View.ofState(x);
            x.grade(1);
            String graded = View.ofState(x);
            x.fire(0, 3 - glaze, 900 + 10 * glaze, 9);
            x.undo();
            Checks.same("graded", View.ofState(x), graded);
            x.undo();
            Checks.same("bench", View.ofState(x), bench);
            x.grade(1);
            x.pack();
            x.deliver(glaze, 1, 1 + glaze);
            String delivered = View.ofState(x);
            x.setSharpness(99);
            x.undo();
            Checks.same("delivered", View.ofState(x), delivered);
            Checks.same("undo to the new object", x.undo() + x.undo() + x.undo() + x.undo() + x.undo(), 10);
            Checks.same("no lots", x.total(10), 0);
        }
    }

    private static void promise14AtMostSix() {
        TileFactory x = new TileFactory();
        Checks.raisesState("nothing to undo", x::undo);
        for (int sharpness = 1; sharpness <= 8; sharpness++) {
            x.setSharpness(sharpness);
        }
        Checks.same("saved", x.total(12), 6);
        for (int left = 5; left >= 0; left--) {
            Checks.same("undo", x.undo(), left);
            Checks.same("sharpness", x.total(0), left + 2);
        }
        Checks.raisesState("the oldest ones are dropped", x::undo);
        Checks.same("sharpness at last", x.total(0), 2);
    }
}
