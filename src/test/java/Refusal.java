/** A refused call throws what is due, and its factory goes on like a twin that never got the call. */
final class Refusal {
    interface Recipe {
        TileFactory make();
    }

    interface Act {
        long on(TileFactory x);
    }

    private Refusal() {
    }

    static void index(String what, Recipe recipe, Act act) {
        check(what, IndexOutOfBoundsException.class, recipe, act);
    }

    static void argument(String what, Recipe recipe, Act act) {
        check(what, IllegalArgumentException.class, recipe, act);
    }

    static void state(String what, Recipe recipe, Act act) {
        check(what, IllegalStateException.class, recipe, act);
    }

    /**
     * Just outside of a range, as far outside as an int goes, and two numbers that a cut to 16 bits, or a product with
     * a number of rows, would take for the least value.
     */
    static int[] outside(int least, int greatest) {
        return new int[] {
            least - 1, greatest + 1, Integer.MIN_VALUE, Integer.MAX_VALUE, least + (1 << 24), least + (1 << 29)};
    }

    private static void check(String what, Class<? extends RuntimeException> due, Recipe recipe, Act act) {
        TileFactory x = recipe.make();
        Checks.raises(what, due, () -> act.on(x));
        Checks.same("the factory after " + what, lifeOf(x), lifeOf(recipe.make()));
    }

    /** All that can be seen; then what the saved states bring back, and what the text does. */
    private static String lifeOf(TileFactory x) {
        StringBuilder life = new StringBuilder(View.ofAll(x));
        for (long left = x.total(12); left > 0; left--) {
            life.append("\nundo ").append(x.undo());
        }
        if (x.firstError() == TileFactory.NONE) {
            life.append("\nexecute ").append(x.execute());
        }
        return life.append('\n').append(View.ofState(x)).toString();
    }
}
