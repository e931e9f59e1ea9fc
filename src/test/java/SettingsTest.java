/** Promises 1 to 6: a new object, and what can be set. */
public final class SettingsTest {
    public static void main(String[] args) {
        promise1NewObject();
        promise1HasNothing();
        promise2SetGlaze();
        promise3SetQuality();
        promise4SetPosition();
        promise5SetSharpness();
        promise6SetBoxSize();
        promise6WaitsForBoxes();
        Checks.finish();
    }

    private static void promise1NewObject() {
        TileFactory x = new TileFactory();
        Checks.same("NONE", TileFactory.NONE, -1);
        int[] glaze = {8, 10, 10, 100, 0, 0};
        for (int number = 0; number < 4; number++) {
            for (int property = 0; property < 6; property++) {
                Checks.same("new glaze " + number + " " + property, x.glaze(number, property), glaze[property]);
            }
        }
        for (int kiln = 0; kiln < 3; kiln++) {
            for (int position = 0; position < 8; position++) {
                for (int property = 0; property < 3; property++) {
                    Checks.same("new position", x.position(kiln, position, property), 0);
                }
            }
        }
        for (int property = 0; property < 16; property++) {
            int due = property == 0 ? 60 : property == 1 ? 10 : 0;
            Checks.same("new total " + property, x.total(property), due);
        }
    }

    private static void promise1HasNothing() {
        TileFactory x = new TileFactory();
        Checks.raisesIndex("new pile", () -> x.pile(0, 0));
        Checks.raisesIndex("new lot", () -> x.lot(0, 0));
        Checks.raisesIndex("new delivery", () -> x.delivery(0, 0));
        Checks.same("new event", x.event(0, 0), TileFactory.NONE);
        Checks.raisesState("new undo", x::undo);
        TileFactory other = new TileFactory();
        other.setSharpness(3);
        other.append('a');
        Checks.same("objects are apart", x.total(0), 60);
        Checks.same("texts are apart", x.total(15), 0);
    }

    private static void promise2SetGlaze() {
        TileFactory x = new TileFactory();
        Checks.same("setGlaze", x.setGlaze(0, 0, 0), 8);
        Checks.same("setGlaze again", x.setGlaze(0, 19, 20), 0);
        Checks.same("base", x.glaze(0, 0), 19);
        Checks.same("sensitivity", x.glaze(0, 1), 20);
        Checks.same("setGlaze of the last", x.setGlaze(3, 5, 6), 8);
        Checks.same("another glaze", x.glaze(1, 0), 8);
        Checks.same("defects stay", x.glaze(0, 2), 10);
        Checks.same("saved", x.total(12), 3);
        String before = View.ofAll(x);
        Checks.raisesIndex("setGlaze(-1)", () -> x.setGlaze(-1, 0, 0));
        Checks.raisesIndex("setGlaze(4)", () -> x.setGlaze(4, 20, 21));
        Checks.raisesArgument("base -1", () -> x.setGlaze(0, -1, 0));
        Checks.raisesArgument("base 20", () -> x.setGlaze(0, 20, 0));
        Checks.raisesArgument("sensitivity -1", () -> x.setGlaze(0, 0, -1));
        Checks.raisesArgument("sensitivity 21", () -> x.setGlaze(0, 0, 21));
        Checks.same("after refusals", View.ofAll(x), before);
    }

    private static void promise3SetQuality() {
        TileFactory x = new TileFactory();
        Checks.same("setQuality", x.setQuality(3, 100, 9999), 10);
        Checks.same("defects", x.glaze(3, 2), 100);
        Checks.same("price", x.glaze(3, 3), 9999);
        Checks.same("setQuality again", x.setQuality(3, 0, 0), 100);
        Checks.same("price 0", x.glaze(3, 3), 0);
        Checks.same("another glaze", x.glaze(2, 3), 100);
        Checks.same("base stays", x.glaze(3, 0), 8);
        Checks.same("saved", x.total(12), 2);
        String before = View.ofAll(x);
        Checks.raisesIndex("setQuality(-1)", () -> x.setQuality(-1, 0, 0));
        Checks.raisesIndex("setQuality(4)", () -> x.setQuality(4, 101, 0));
        Checks.raisesArgument("defects -1", () -> x.setQuality(0, -1, 0));
        Checks.raisesArgument("defects 101", () -> x.setQuality(0, 101, 0));
        Checks.raisesArgument("price -1", () -> x.setQuality(0, 0, -1));
        Checks.raisesArgument("price 10000", () -> x.setQuality(0, 0, 10000));
        Checks.same("after refusals", View.ofAll(x), before);
    }

    private static void promise4SetPosition() {
        TileFactory x = new TileFactory();
        Checks.same("setPosition", x.setPosition(2, 7, -40, 100), 0);
        Checks.same("offset", x.position(2, 7, 0), -40);
        Checks.same("breakage", x.position(2, 7, 1), 100);
        Checks.same("setPosition again", x.setPosition(2, 7, 40, 0), -40);
        Checks.same("another kiln", x.position(1, 7, 0), 0);
        Checks.same("another position", x.position(2, 6, 0), 0);
        Checks.same("saved", x.total(12), 2);
        String before = View.ofAll(x);
        Checks.raisesIndex("kiln -1", () -> x.setPosition(-1, 0, 0, 0));
        Checks.raisesIndex("kiln 3", () -> x.setPosition(3, 0, 41, 0));
        Checks.raisesIndex("position -1", () -> x.setPosition(1, -1, 0, 0));
        Checks.raisesIndex("position 8", () -> x.setPosition(0, 8, 0, 101));
        Checks.raisesArgument("offset -41", () -> x.setPosition(0, 0, -41, 0));
        Checks.raisesArgument("offset 41", () -> x.setPosition(0, 0, 41, 0));
        Checks.raisesArgument("breakage -1", () -> x.setPosition(0, 0, 0, -1));
        Checks.raisesArgument("breakage 101", () -> x.setPosition(0, 0, 0, 101));
        Checks.same("after refusals", View.ofAll(x), before);
    }

    private static void promise5SetSharpness() {
        TileFactory x = new TileFactory();
        Checks.same("setSharpness", x.setSharpness(0), 60);
        Checks.same("setSharpness again", x.setSharpness(100), 0);
        Checks.same("sharpness", x.total(0), 100);
        Checks.same("the same again", x.setSharpness(100), 100);
        Checks.same("saved though nothing changed", x.total(12), 3);
        Checks.raisesArgument("sharpness -1", () -> x.setSharpness(-1));
        Checks.raisesArgument("sharpness 101", () -> x.setSharpness(101));
        Checks.same("saved after refusals", x.total(12), 3);
    }

    private static void promise6SetBoxSize() {
        TileFactory x = new TileFactory();
        Checks.same("setBoxSize", x.setBoxSize(1), 10);
        Checks.same("setBoxSize again", x.setBoxSize(50), 1);
        Checks.same("size", x.total(1), 50);
        Checks.same("saved", x.total(12), 2);
        Checks.raisesArgument("size 0", () -> x.setBoxSize(0));
        Checks.raisesArgument("size 51", () -> x.setBoxSize(51));
        Checks.same("size after refusals", x.total(1), 50);
    }

    private static void promise6WaitsForBoxes() {
        TileFactory x = new TileFactory();
        x.setQuality(0, 0, 100);
        x.fire(0, 0, 1000, 5);
        Checks.same("with a pile", x.setBoxSize(20), 10);
        x.grade(1);
        Checks.same("with loose tiles", x.setBoxSize(20), 20);
        Checks.same("two boxes of 20", x.pack(), 2);
        Checks.raisesState("with boxes", () -> x.setBoxSize(20));
        Checks.raisesArgument("argument first", () -> x.setBoxSize(51));
        x.deliver(0, 1, 2);
        Checks.raisesState("with boxes out", () -> x.setBoxSize(5));
        x.takeBack(0, 1, 0);
        Checks.raisesState("with one box out", () -> x.setBoxSize(5));
        x.takeBack(0, 1, 20);
        Checks.same("when all are back", x.setBoxSize(5), 20);
        Checks.same("four boxes of 5", x.pack(), 4);
    }
}
