import java.util.ArrayList;
import java.util.List;

/**
 * Runs of 512 calls, drawn from a fixed seed. Each answer is compared with the model's; each refused call and each
 * question must leave the object as it is; undo must bring back what was seen before; no tile may get lost.
 */
public final class RandomRunsTest {
    private static final int RUNS = 400;
    private static final int CALLS = 512;
    private static final int LOOK_EVERY = 8;

    private static long seed = 20261119;

    private final int run;
    private final TileFactory x = new TileFactory();
    private final Model model = new Model();
    private final List<String> views = new ArrayList<>();
    private final List<String> calls = new ArrayList<>();
    private String planned = "";

    private RandomRunsTest(int run) {
        this.run = run;
    }

    public static void main(String[] args) {
        for (int run = 0; run < RUNS; run++) {
            new RandomRunsTest(run).go();
        }
        Checks.finish();
    }

    private static int below(int bound) {
        seed = seed * 6364136223846793005L + 1442695040888963407L;
        return (int) ((seed >>> 33) % bound);
    }

    /** Mostly within the range, sometimes an edge, a bit outside, or far outside. */
    private static int near(int least, int greatest) {
        int chance = below(60);
        if (chance == 0) return least - 1;
        if (chance == 1) return greatest + 1;
        if (chance == 2) return below(2) == 0 ? Integer.MIN_VALUE : Integer.MAX_VALUE;
        if (chance < 6) return below(2) == 0 ? least : greatest;
        return least + below(greatest - least + 1);
    }

    private void go() {
        for (int call = 0; call < CALLS; call++) {
            // looking takes many calls itself; the limit of 512 binds what is promised, not what holds here
            boolean looks = call % LOOK_EVERY == 0 || run % 20 == 0;
            step(looks);
        }
    }

    private void step(boolean looks) {
        String before = looks ? View.ofAll(x) : null;
        String state = looks ? View.ofState(x) : null;
        String name = planned.isEmpty() ? nextName() : "append";
        int[] arguments = argumentsOf(name);
        long savedBefore = x.total(12);
        long due = model.call(name, arguments);
        long got = answer(name, arguments);
        calls.add(name + java.util.Arrays.toString(arguments));
        Checks.same("run " + run + ": " + calls, got, due);
        if (looks) {
            lookAfter(name, due < Model.STATE + 1, before, state);
        }
        followUndo(name, due <= Model.STATE, savedBefore, state);
        checkTiles();
    }

    private void lookAfter(String name, boolean isRefused, String before, String state) {
        if (isRefused || isQuestion(name)) {
            Checks.same("run " + run + " after " + name, View.ofAll(x), before);
        } else if (isText(name)) {
            Checks.same("run " + run + " state after " + name, View.ofState(x), state);
        }
        for (int row = 0; row < x.total(10); row++) {
            for (int property = 0; property < 6; property++) {
                Checks.same("run " + run + " lot " + row, x.lot(row, property), model.call("lot", row, property));
            }
        }
        for (int property = 0; property < 16; property++) {
            Checks.same("run " + run + " total " + property, x.total(property), model.call("total", property));
        }
    }

    /** Keeps what was seen before each call that is undoable, null where nobody looked. */
    private void followUndo(String name, boolean isRefused, long savedBefore, String state) {
        if (isRefused || isQuestion(name) || isText(name)) {
            Checks.same("saved after " + name, x.total(12), savedBefore);
        } else if (name.equals("undo")) {
            String due = views.remove(views.size() - 1);
            if (due != null) {
                Checks.same("run " + run + " after undo", View.ofState(x), due);
            }
        } else {
            views.add(state);
            if (views.size() > 6) {
                views.remove(0);
            }
            Checks.same("saved after " + name, x.total(12), views.size());
        }
    }

    private void checkTiles() {
        long boxed = x.total(7) * x.total(1);
        Checks.same("run " + run + " tiles", x.total(4) + x.total(5) + x.total(6) + boxed + x.total(8), x.total(3));
    }

    private static boolean isText(String name) {
        return name.equals("append") || name.equals("clear");
    }

    private static boolean isQuestion(String name) {
        return List.of("glaze", "position", "pile", "lot", "findLot", "delivery", "event", "total", "shadeAt",
                "bestPeak", "largest", "possible", "wouldHide", "firstError").contains(name);
    }

    private static final String[] NAMES = {
        "setGlaze", "setQuality", "setPosition", "setSharpness", "setBoxSize", "fire", "fire", "fire", "fire",
        "grade", "grade", "pack", "pack", "deliver", "deliver", "deliver", "deliver", "drop", "drop", "takeBack",
        "takeBack", "replace", "replace", "undo", "undo", "glaze", "position", "pile", "lot", "findLot", "delivery",
        "event", "total", "shadeAt", "bestPeak", "largest", "possible", "possible", "wouldHide", "append", "clear",
        "firstError", "execute", "execute"};

    private String nextName() {
        String name = NAMES[below(NAMES.length)];
        if (name.equals("append") && below(3) > 0) {
            planned = someText();
        }
        return name;
    }

    private static final String[] COMMANDS = {
        "fire 0 0 1000 10", "fire 2 1 990 33", "grade 1", "grade 3", "pack", " pack ", "ship 0 1 1", "ship 1  2 1",
        "ship 1 1 2", "drop 0 8 1 1", "drop 1 7 1 0", "fire 1 2 1200 0100", "fire 0 0 799 1", "grade 11", "ship 4 1 1",
        "", "pac", "pack 1", "grade x", "grade 12345", "fire 0 0 1000", "drop 0 8 1 1 1", "grade 1x", "x y", "; "};

    private static String someText() {
        StringBuilder text = new StringBuilder();
        int commands = 1 + below(5);
        int kinds = below(4) == 0 ? COMMANDS.length : 15;
        for (int number = 0; number < commands; number++) {
            text.append(number > 0 ? ";" : "").append(COMMANDS[below(kinds)]);
        }
        return text.toString();
    }

    private int nextSign() {
        if (planned.isEmpty()) {
            return near(32, 126);
        }
        int sign = planned.charAt(0);
        planned = planned.substring(1);
        return sign;
    }

    private int boxes() {
        return below(12) == 0 ? near(1, 100000) : 1 + below(12);
    }

    private int someDelivery() {
        return near(0, Math.max(0, (int) x.total(11) - 1));
    }

    private int[] argumentsOf(String name) {
        int glaze = near(0, run % 2 == 0 ? 3 : 1);
        int size = (int) x.total(1);
        switch (name) {
            case "setGlaze": return new int[] {glaze, near(0, 19), near(0, 20)};
            case "setQuality": return new int[] {glaze, near(0, 100), near(0, 9999)};
            case "setPosition": return new int[] {near(0, 2), near(0, 7), near(-40, 40), near(0, 100)};
            case "setSharpness": return new int[] {near(0, 100)};
            case "setBoxSize": return new int[] {near(1, 50)};
            case "fire": return new int[] {near(0, 2), glaze, near(800, 1200), near(1, 100)};
            case "grade": case "wouldHide": return new int[] {near(1, 10)};
            case "deliver": return new int[] {glaze, near(1, 2), boxes()};
            case "drop": return someDrop(size);
            case "takeBack":
                int back = 1 + below(3);
                return new int[] {someDelivery(), below(9) == 0 ? boxes() : back, near(0, back * size)};
            case "replace": return new int[] {someDelivery()};
            case "glaze": return new int[] {glaze, near(0, 5)};
            case "position": return new int[] {near(0, 2), near(0, 7), near(0, 2)};
            case "pile": return new int[] {near(0, (int) x.total(9)), near(0, 3)};
            case "lot": return new int[] {near(0, (int) x.total(10)), near(0, 5)};
            case "findLot": return new int[] {glaze, near(0, 19), near(1, 2)};
            case "delivery": return new int[] {someDelivery(), near(0, 4)};
            case "event": return new int[] {near(0, 20), near(0, 1)};
            case "total": return new int[] {near(0, 15)};
            case "shadeAt": return new int[] {near(0, 2), near(0, 7), glaze, near(800, 1200)};
            case "bestPeak": return new int[] {near(0, 2), glaze, near(0, 19)};
            case "largest": return new int[] {glaze, near(1, 2)};
            case "possible": return new int[] {glaze, near(1, 2), boxes(), boxes(), boxes()};
            case "append": return new int[] {nextSign()};
            default: return new int[0];
        }
    }

    /** A lot that there is, more often than not. */
    private int[] someDrop(int size) {
        int lots = (int) x.total(10);
        if (lots == 0 || below(5) == 0) {
            return new int[] {near(0, 3), near(0, 19), near(1, 2), near(0, size)};
        }
        int lot = below(lots);
        return new int[] {x.lot(lot, 0), x.lot(lot, 1), x.lot(lot, 2), near(0, size)};
    }

    private long answer(String name, int... a) {
        try {
            return call(name, a);
        } catch (RuntimeException e) {
            if (e.getClass() == IndexOutOfBoundsException.class) return Model.INDEX;
            if (e.getClass() == IllegalArgumentException.class) return Model.ARGUMENT;
            if (e.getClass() == IllegalStateException.class) return Model.STATE;
            throw e;
        }
    }

    private long call(String name, int... a) {
        switch (name) {
            case "setGlaze": return x.setGlaze(a[0], a[1], a[2]);
            case "setQuality": return x.setQuality(a[0], a[1], a[2]);
            case "setPosition": return x.setPosition(a[0], a[1], a[2], a[3]);
            case "setSharpness": return x.setSharpness(a[0]);
            case "setBoxSize": return x.setBoxSize(a[0]);
            case "fire": return x.fire(a[0], a[1], a[2], a[3]);
            case "grade": return x.grade(a[0]);
            case "pack": return x.pack();
            case "deliver": return x.deliver(a[0], a[1], a[2]);
            case "drop": return x.drop(a[0], a[1], a[2], a[3]);
            case "takeBack": return x.takeBack(a[0], a[1], a[2]);
            case "replace": return x.replace(a[0]);
            case "undo": return x.undo();
            case "glaze": return x.glaze(a[0], a[1]);
            case "position": return x.position(a[0], a[1], a[2]);
            case "pile": return x.pile(a[0], a[1]);
            case "lot": return x.lot(a[0], a[1]);
            case "findLot": return x.findLot(a[0], a[1], a[2]);
            case "delivery": return x.delivery(a[0], a[1]);
            case "event": return x.event(a[0], a[1]);
            case "total": return x.total(a[0]);
            case "shadeAt": return x.shadeAt(a[0], a[1], a[2], a[3]);
            case "bestPeak": return x.bestPeak(a[0], a[1], a[2]);
            case "largest": return x.largest(a[0], a[1]);
            case "possible": return x.possible(a[0], a[1], a[2], a[3], a[4]);
            case "wouldHide": return x.wouldHide(a[0]);
            case "append": return x.append(a[0]);
            case "clear": return x.clear();
            case "firstError": return x.firstError();
            case "execute": return x.execute();
            default: throw new AssertionError(name);
        }
    }
}
