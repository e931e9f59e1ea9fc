/** Promises 28 to 31: the buffer and its commands. */
public final class TextTest {
    public static void main(String[] args) {
        promise28Append();
        promise29Clear();
        promise30FirstError();
        promise30NumbersOfCommands();
        promise31Execute();
        promise31AllCommands();
        promise31StopsAtAnException();
        promise31Refuses();
        promise31IsOneCallToUndo();
        Checks.finish();
    }

    private static void write(TileFactory x, String text) {
        x.clear();
        for (char sign : text.toCharArray()) {
            x.append(sign);
        }
    }

    private static void errorIs(String text, int due) {
        TileFactory x = new TileFactory();
        write(x, text);
        Checks.same("error of '" + text + "'", x.firstError(), due);
        Checks.same("length stays", x.total(15), text.length());
    }

    private static void promise28Append() {
        TileFactory x = new TileFactory();
        Checks.same("append", x.append(32), 1);
        Checks.same("append again", x.append(126), 2);
        Checks.same("length", x.total(15), 2);
        Checks.raisesArgument("code 31", () -> x.append(31));
        Checks.raisesArgument("code 127", () -> x.append(127));
        Checks.raisesArgument("code -1", () -> x.append(-1));
        // the low 16 bits would be a blank
        Checks.raisesArgument("code 65568", () -> x.append(65568));
        for (int length = 3; length <= 100; length++) {
            Checks.same("append", x.append(' '), length);
        }
        Checks.raisesState("character 101", () -> x.append(' '));
        Checks.raisesArgument("argument first", () -> x.append(31));
        Checks.same("length at last", x.total(15), 100);
        Checks.same("not undoable", x.total(12), 0);
    }

    private static void promise29Clear() {
        TileFactory x = new TileFactory();
        Checks.same("clear of nothing", x.clear(), 0);
        write(x, "pack");
        Checks.same("clear", x.clear(), 4);
        Checks.same("length", x.total(15), 0);
        Checks.same("not undoable", x.total(12), 0);
        write(x, "grade 1");
        Checks.same("nothing of the old text", x.firstError(), TileFactory.NONE);
        Checks.same("clear again", x.clear(), 7);
        Checks.same("empty text", x.firstError(), 1);
    }

    private static void promise30FirstError() {
        errorIs("", 1);
        errorIs("   ", 1);
        errorIs("fires 0 0 1000 1", 1);
        errorIs("fir 0 0 1000 1", 1);
        errorIs("Fire 0 0 1000 1", 1);
        errorIs("deliver 0 1 1", 1);
        errorIs("1 fire 0 0 1000", 1);
        errorIs("fire 0 0 1000", 2);
        errorIs("fire 0 0 1000 1 1", 2);
        errorIs("fire a b c", 2);
        errorIs("grade", 2);
        errorIs("grade 1 x", 2);
        errorIs("pack 1", 2);
        errorIs("pack x", 2);
        errorIs("ship 0 1", 2);
        errorIs("ship 0 1 1 1", 2);
        errorIs("drop 0 8 1", 2);
        errorIs("grade 1 1 1 1 1 1 1 1 1 1 1 1 1 1 1 1 1 1 1 1 1 1 1 1 1 1", 2);
        errorIs("grade x", 3);
        errorIs("grade 12345", 3);
        errorIs("grade -1", 3);
        errorIs("grade +1", 3);
        errorIs("grade 1.", 3);
        errorIs("grade 1/", 3);
        errorIs("grade 1:", 3);
        errorIs("fire 0 0 1000 x", 3);
        errorIs("fire x 0 1000 0", 3);
        errorIs("drop 0 8 1 00000", 3);
        errorIs("grade 9999", TileFactory.NONE);
        errorIs("grade 0001", TileFactory.NONE);
        errorIs("fire 9 9 9 9", TileFactory.NONE);
        errorIs("  ship   0  1  1  ", TileFactory.NONE);
        errorIs("pack", TileFactory.NONE);
        errorIs(" pack ", TileFactory.NONE);
        errorIs("drop 0 8 1 0", TileFactory.NONE);
    }

    private static void promise30NumbersOfCommands() {
        errorIs(";", 1);
        errorIs("pack;", 11);
        errorIs(";pack", 1);
        errorIs("pack; ;pack", 11);
        errorIs("pack;pack;pack 1;x", 22);
        errorIs("pack ; grade 1;grade x;", 23);
        errorIs("pack;grade 1;fire 0 0 1000 1;ship 0 1 1;drop 0 8 1 0", TileFactory.NONE);
        errorIs("grade;x", 2);
        errorIs("pack 1;grade", 2);
        errorIs("pack;".repeat(20), 201);
        errorIs("pack;".repeat(19) + "pack ", TileFactory.NONE);
        errorIs("pack;".repeat(12) + ";", 121);
        errorIs(";".repeat(100), 1);
        errorIs("grade 1;2", 11);
    }

    private static void promise31Execute() {
        TileFactory x = new TileFactory();
        write(x, "fire 0 1 1010 5;grade 1;pack");
        Checks.same("execute", x.execute(), 3);
        Checks.same("text", x.total(15), 0);
        Checks.same("firings", x.total(2), 1);
        Checks.same("shade of the lot", x.lot(0, 1), 9);
        Checks.same("boxes", x.total(7), 4);
        Checks.same("saved", x.total(12), 1);
        Checks.same("kind of the latest event", x.event(0, 0), 2);
        Checks.same("kind of the one before", x.event(1, 0), 1);
    }

    private static void promise31AllCommands() {
        TileFactory x = new TileFactory();
        x.setSharpness(0);
        write(x, "fire 2 3 1000 0010;grade 2; pack;ship 3 1 1;drop 3 8 1 3;");
        Checks.raisesState("an empty command at the end", x::execute);
        write(x, "fire 0 3 1000 0010;grade 2; pack;ship 3 1 1;drop 3 8 1 3;fire 1 2 900 100;fire 0 0 800 1");
        Checks.same("execute", x.execute(), 7);
        Checks.same("delivery", x.delivery(0, 1), 1);
        Checks.same("loose", x.lot(0, 3), 7);
        Checks.same("boxes", x.lot(0, 4), 6);
        Checks.same("broken", x.total(4), 3);
        Checks.same("bench", x.total(5), 808);
        Checks.same("saved", x.total(12), 2);
    }

    private static void promise31StopsAtAnException() {
        TileFactory x = new TileFactory();
        write(x, "pack;fire 0 0 1000 1;grade 0;pack");
        Checks.same("argument out of range", x.execute(), 2);
        Checks.same("text", x.total(15), 0);
        Checks.same("bench", x.total(5), 8);
        write(x, "fire 3 0 1000 1;fire 0 0 1000 1");
        Checks.same("no such kiln", x.execute(), 0);
        Checks.same("firings", x.total(2), 1);
        write(x, "fire 0 0 1201 1");
        Checks.same("peak out of range", x.execute(), 0);
        write(x, "grade 1;grade 1;pack");
        Checks.same("no pile", x.execute(), 1);
        write(x, "ship 0 1 1;pack");
        Checks.same("no boxes", x.execute(), 0);
        write(x, "ship 4 1 1");
        Checks.same("no such glaze", x.execute(), 0);
        write(x, "drop 0 7 1 0");
        Checks.same("no such lot", x.execute(), 0);
        write(x, "drop 0 8 1 0");
        Checks.same("no box", x.execute(), 0);
        Checks.same("saved each time, also without a command", x.total(12), 6);
    }

    private static void promise31Refuses() {
        TileFactory x = new TileFactory();
        Checks.raisesState("an empty text", x::execute);
        Checks.same("nothing saved", x.total(12), 0);
        write(x, "fire 0 0 1000 1;grade 1 1");
        Checks.raisesState("an error in the second command", x::execute);
        Checks.same("the buffer stays", x.total(15), 25);
        Checks.same("nothing is fired", x.total(2), 0);
        Checks.same("nothing saved then", x.total(12), 0);
        write(x, "fire 3 0 1000 1;x");
        Checks.raisesState("an error behind a command that would throw", x::execute);
    }

    private static void promise31IsOneCallToUndo() {
        TileFactory x = new TileFactory();
        String before = View.ofState(x);
        write(x, "fire 0 0 1000 9;grade 1;pack;ship 0 1 1");
        Checks.same("execute", x.execute(), 4);
        x.append('x');
        Checks.same("undo", x.undo(), 0);
        Checks.same("state", View.ofState(x), before);
        Checks.same("the text is not restored", x.total(15), 1);
    }
}
