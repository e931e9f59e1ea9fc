/** Writes down all that the face of a factory tells, so that two moments can be compared. */
final class View {
    private View() {
    }

    /** All but the saved states and the text, which are no part of the state that undo restores. */
    static String ofState(TileFactory x) {
        StringBuilder view = new StringBuilder();
        for (int glaze = 0; glaze < 4; glaze++) {
            for (int property = 0; property < 6; property++) {
                view.append(x.glaze(glaze, property)).append(' ');
            }
            view.append(x.largest(glaze, 1)).append(' ').append(x.largest(glaze, 2)).append('\n');
        }
        for (int kiln = 0; kiln < 3; kiln++) {
            for (int position = 0; position < 8; position++) {
                for (int property = 0; property < 3; property++) {
                    view.append(x.position(kiln, position, property)).append(' ');
                }
            }
            view.append('\n');
        }
        for (int property = 0; property < 15; property++) {
            view.append(property == 12 ? "-" : x.total(property)).append(' ');
        }
        appendRows(view, x);
        return view.toString();
    }

    static String ofAll(TileFactory x) {
        return ofState(x) + "\nsaved " + x.total(12) + " length " + x.total(15) + " error " + x.firstError();
    }

    private static void appendRows(StringBuilder view, TileFactory x) {
        for (int pile = 0; pile < x.total(9); pile++) {
            view.append("\npile");
            for (int property = 0; property < 4; property++) {
                view.append(' ').append(x.pile(pile, property));
            }
        }
        for (int lot = 0; lot < x.total(10); lot++) {
            view.append("\nlot");
            for (int property = 0; property < 6; property++) {
                view.append(' ').append(x.lot(lot, property));
            }
        }
        for (int delivery = 0; delivery < x.total(11); delivery++) {
            view.append("\ndelivery");
            for (int property = 0; property < 5; property++) {
                view.append(' ').append(x.delivery(delivery, property));
            }
        }
        view.append("\nevents");
        for (int index = 0; index < 21; index++) {
            view.append(' ').append(x.event(index, 0)).append(':').append(x.event(index, 1));
        }
    }
}
