import java.util.List;

/** Promise 14 at its edges, with the Terms of undo and errors, and the 512 calls of 'What it is'. */
public final class EdgeUndoTest {
    public static void main(String[] args) {
        refusedIfNothingIsSaved();
        refusedIfAllIsUndone();
        atMost6StatesAreSaved();
        theOldestStateIsDropped();
        stateIsSavedThoughNothingChanges();
        refusedCallsSaveNothing();
        questionsAndTextSaveNothing();
        theBufferIsNotRestored();
        undoIsNotUndone();
        undoGoesOnAfterNewCalls();
        undoOfTheFirstDelivery();
        undoBringsEventsBack();
        works512Calls();
        Checks.finish();
    }

    private static void refusedIfNothingIsSaved() {
        Refusal.state("undo of a new object", TileFactory::new, TileFactory::undo);
        Refusal.state("undo with a text alone", () -> {
            TileFactory x = new TileFactory();
            Recipes.write(x, "pack");
            return x;
        }, TileFactory::undo);
    }

    private static void refusedIfAllIsUndone() {
        TileFactory x = new TileFactory();
        x.pack();
        Checks.same("a single state", x.undo(), 0);
        Checks.raisesState("none is left", x::undo);
        Checks.same("saved", x.total(12), 0);
        x.setSharpness(1);
        Checks.same("a state again", x.undo(), 0);
        Checks.same("sharpness", x.total(0), 60);
        Checks.raisesState("none is left again", x::undo);
    }

    private static TileFactory withSharpnessUpTo(int greatest) {
        TileFactory x = new TileFactory();
        for (int sharpness = 1; sharpness <= greatest; sharpness++) {
            x.setSharpness(sharpness);
        }
        return x;
    }

    /** "At most 6 states are saved" */
    private static void atMost6StatesAreSaved() {
        for (int calls = 0; calls <= 8; calls++) {
            Checks.same("saved after " + calls, withSharpnessUpTo(calls).total(12), Math.min(calls, 6));
        }
    }

    /** "when one more is saved, the oldest one is dropped" */
    private static void theOldestStateIsDropped() {
        TileFactory six = withSharpnessUpTo(6);
        for (int left = 5; left >= 0; left--) {
            Checks.same("undo of six", six.undo(), left);
            Checks.same("sharpness of six", six.total(0), left == 0 ? 60 : left);
        }
        TileFactory seven = withSharpnessUpTo(7);
        for (int left = 5; left >= 0; left--) {
            Checks.same("undo of seven", seven.undo(), left);
            Checks.same("sharpness of seven", seven.total(0), left + 1);
        }
        Checks.raisesState("the first state is gone", seven::undo);
        TileFactory twenty = withSharpnessUpTo(20);
        for (int left = 5; left >= 0; left--) {
            Checks.same("undo of twenty", twenty.undo(), left);
            Checks.same("sharpness of twenty", twenty.total(0), left + 14);
        }
        Checks.raisesState("the first 14 states are gone", twenty::undo);
    }

    /** "saves the state from before the call, even if the call changes nothing" */
    private static void stateIsSavedThoughNothingChanges() {
        TileFactory x = new TileFactory();
        x.setSharpness(60);
        x.pack();
        Recipes.write(x, "grade 1");
        Checks.same("no command is executed", x.execute(), 0);
        Checks.same("saved", x.total(12), 3);
        Checks.same("undo of nothing", x.undo(), 2);
        for (int call = 0; call < 7; call++) {
            x.setGlaze(0, 8, 10);
        }
        Checks.same("saved at most", x.total(12), 6);
    }

    /** "A call that throws an exception changes nothing": also if six states are saved already. */
    private static void refusedCallsSaveNothing() {
        Refusal.Recipe empty = TileFactory::new;
        Refusal.Recipe full = Recipes::busy;
        for (Refusal.Recipe recipe : List.of(empty, full)) {
            Refusal.index("setGlaze", recipe, y -> y.setGlaze(4, 0, 0));
            Refusal.index("setQuality", recipe, y -> y.setQuality(4, 0, 0));
            Refusal.index("setPosition", recipe, y -> y.setPosition(3, 0, 0, 0));
            Refusal.argument("setSharpness", recipe, y -> y.setSharpness(101));
            Refusal.argument("setBoxSize", recipe, y -> y.setBoxSize(51));
            Refusal.argument("fire", recipe, y -> y.fire(0, 0, 1000, 101));
            Refusal.argument("grade", recipe, y -> y.grade(11));
            Refusal.state("deliver", recipe, y -> y.deliver(2, 1, 1));
            Refusal.index("drop", recipe, y -> y.drop(2, 8, 1, 0));
            Refusal.index("takeBack", recipe, y -> y.takeBack(1, 1, 0));
            Refusal.index("replace", recipe, y -> y.replace(1));
            Refusal.argument("append", recipe, y -> y.append(127));
        }
        Refusal.state("setBoxSize with boxes", full, y -> y.setBoxSize(6));
        Refusal.state("takeBack of too many", full, y -> y.takeBack(0, 3, 0));
        Refusal.state("execute", empty, TileFactory::execute);
    }

    private static void questionsAndTextSaveNothing() {
        TileFactory x = new TileFactory();
        x.fire(0, 0, 1000, 20);
        x.grade(1);
        x.pack();
        x.deliver(0, 1, 3);
        x.fire(1, 3, 1000, 4);
        String before = View.ofState(x);
        x.glaze(0, 0);
        x.position(0, 0, 0);
        x.pile(0, 0);
        x.lot(0, 0);
        x.findLot(0, 8, 1);
        x.delivery(0, 0);
        x.event(0, 0);
        x.total(0);
        x.shadeAt(0, 0, 0, 1000);
        x.bestPeak(0, 0, 8);
        x.largest(0, 1);
        x.possible(0, 1, 1, 1, 1);
        x.wouldHide(1);
        x.append('a');
        x.firstError();
        x.clear();
        Checks.same("saved", x.total(12), 5);
        Checks.same("state", View.ofState(x), before);
        x.undo();
        Checks.same("the call that is undone", x.total(2), 1);
    }

    /** "The state is everything but the buffer and the saved states." */
    private static void theBufferIsNotRestored() {
        TileFactory x = new TileFactory();
        Recipes.write(x, "pack");
        x.setSharpness(1);
        x.clear();
        Recipes.write(x, "grade 1;x");
        Checks.same("undo", x.undo(), 0);
        Checks.same("the text stays", x.total(15), 9);
        Checks.same("its error stays", x.firstError(), 11);
        x.clear();
        Recipes.write(x, "pack;pack");
        Checks.same("execute", x.execute(), 2);
        Checks.same("undo of execute", x.undo(), 0);
        Checks.same("the buffer stays empty", x.total(15), 0);
    }

    private static void undoIsNotUndone() {
        TileFactory x = withSharpnessUpTo(3);
        Checks.same("undo", x.undo(), 2);
        Checks.same("sharpness", x.total(0), 2);
        Checks.same("undo again", x.undo(), 1);
        Checks.same("sharpness then", x.total(0), 1);
        Checks.same("undo at last", x.undo(), 0);
        Checks.same("sharpness at last", x.total(0), 60);
    }

    /** Undo and new calls at the limit of six: the states come back in their order. */
    private static void undoGoesOnAfterNewCalls() {
        TileFactory x = withSharpnessUpTo(8);
        x.undo();
        x.undo();
        x.setSharpness(50);
        x.setSharpness(51);
        Checks.same("saved", x.total(12), 6);
        x.setSharpness(52);
        int[] due = {51, 50, 6, 5, 4, 3};
        for (int number = 0; number < 6; number++) {
            Checks.same("undo " + number, x.undo(), 5 - number);
            Checks.same("sharpness " + number, x.total(0), due[number]);
        }
        Checks.raisesState("no more", x::undo);
    }

    private static void undoOfTheFirstDelivery() {
        TileFactory x = Recipes.withLot(20, 100);
        Checks.same("number", x.deliver(0, 1, 2), 0);
        x.undo();
        Checks.raisesIndex("delivery 0", () -> x.delivery(0, 0));
        Checks.same("boxes", x.lot(0, 4), 2);
        Checks.same("hidden defects", x.lot(0, 5), 20);
        Checks.same("values", x.total(14), 0);
        Checks.same("number again", x.deliver(0, 1, 1), 0);
        Checks.same("its boxes", x.delivery(0, 1), 1);
        Checks.same("its complaints", x.delivery(0, 3), 10);
    }

    private static void undoBringsEventsBack() {
        TileFactory x = new TileFactory();
        x.setPosition(0, 0, 0, 100);
        for (int tiles = 1; tiles <= 20; tiles++) {
            x.fire(0, 0, 1000, tiles);
        }
        x.fire(0, 0, 1000, 21);
        Checks.same("the oldest one is gone", x.event(19, 1), 2);
        x.undo();
        Checks.same("it is back", x.event(19, 1), 1);
        Checks.same("the latest one", x.event(0, 1), 20);
        Checks.same("there are no more", x.event(20, 1), TileFactory.NONE);
    }

    /** "An object is used for at most 512 calls": the last one answers as the first one. */
    private static void works512Calls() {
        TileFactory x = Recipes.withFirings(505, 1, true);
        Checks.same("call 511", x.largest(0, 1), 404000);
        Checks.same("call 512", x.total(13), 404000L * 9999);
        TileFactory y = new TileFactory();
        for (int call = 1; call < 512; call++) {
            y.setSharpness(call % 101);
        }
        Checks.same("call 512 of undo", y.undo(), 5);
    }
}
