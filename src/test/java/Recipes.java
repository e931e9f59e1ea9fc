/** Factories that several tests begin with. */
final class Recipes {
    private Recipes() {
    }

    /**
     * Has something of everything, with six saved states:
     * lot 0 of glaze 0, shade 8, grade 1 with 8 loose tiles, 5 boxes of 6 and 12 hidden defects,
     * lot 1 of shade 8, grade 2 with 3 boxes, lot 2 of shade 9, grade 1 with 5 loose tiles, lot 3 of shade 9, grade 2
     * with 2; delivery 0 of lot 0 with 3 boxes, of which 2 are out, and 5 complaints; a pile of glaze 3.
     */
    static TileFactory busy() {
        TileFactory x = new TileFactory();
        x.setSharpness(50);
        x.setQuality(0, 50, 101);
        x.setPosition(0, 1, 10, 30);
        x.setBoxSize(6);
        x.fire(0, 0, 1000, 10);
        x.grade(1);
        x.pack();
        x.deliver(0, 1, 3);
        x.takeBack(0, 1, 2);
        x.fire(1, 3, 1000, 4);
        write(x, "fire 1 2 1010 3;grade 1;pack");
        return x;
    }

    /** Only position 0 of kiln 0 keeps its tiles whole; all of them have hidden defects, or none. */
    static TileFactory withOnePosition(boolean areHidden) {
        TileFactory x = new TileFactory();
        for (int position = 1; position < 8; position++) {
            x.setPosition(0, position, 0, 100);
        }
        x.setQuality(0, areHidden ? 100 : 0, 100);
        return x;
    }

    /** Lot 0 of glaze 0, shade 8, grade 1 has so many tiles, packed into boxes of 10; so many percent are hidden. */
    static TileFactory withLot(int tiles, int defects) {
        TileFactory x = withOnePosition(false);
        x.setQuality(0, defects, 100);
        x.setSharpness(0);
        x.fire(0, 0, 1000, tiles);
        x.grade(1);
        x.pack();
        return x;
    }

    /** Lot 0 of glaze 0, shade 8, grade 1 has 800 tiles of each firing, all with hidden defects or none. */
    static TileFactory withFirings(int firings, int boxSize, boolean areHidden) {
        TileFactory x = new TileFactory();
        x.setSharpness(0);
        x.setQuality(0, areHidden ? 100 : 0, 9999);
        x.setBoxSize(boxSize);
        for (int firing = 0; firing < firings; firing++) {
            x.fire(0, 0, 1000, 100);
        }
        x.grade(1);
        x.pack();
        return x;
    }

    static void write(TileFactory x, String text) {
        for (char sign : text.toCharArray()) {
            x.append(sign);
        }
    }
}
