/** Promises 28 to 31 at their edges, with the Terms of the text. */
public final class EdgeTextTest {
    public static void main(String[] args) {
        promise28CodeIs32To126();
        promise28RefusedWith100Characters();
        promise28ArgumentComesFirst();
        promise29EmptyOrFull();
        anEmptyTextIsOneCommand();
        semicolonsDivideTheText();
        blanksAreAllowedAround();
        aWordGoesUpToTheNextBlankOrSemicolon();
        kind1NoWordOrNoneOfThese();
        kind2AnotherNumberOfArguments();
        kind3NoNumberOf1To4Digits();
        theFirstErrorOfSeveral();
        promise30NoneIfNoCommandHasAnError();
        theLastCommandOfAFullText();
        promise31RefusedIfACommandHasAnError();
        promise31StopsAtTheFirstThatWouldThrow();
        promise31NoCommandIsExecuted();
        promise31EdgesOfEachCommand();
        promise31EachCommandDoesNothingElse();
        promise31IsOneCall();
        Checks.finish();
    }

    private static TileFactory withText(String text) {
        TileFactory x = new TileFactory();
        Recipes.write(x, text);
        return x;
    }

    private static void errorIs(String text, int due) {
        Checks.same("error of '" + text + "'", withText(text).firstError(), due);
    }

    private static void promise28CodeIs32To126() {
        TileFactory x = new TileFactory();
        Checks.same("code 32", x.append(32), 1);
        Checks.same("code 126", x.append(126), 2);
        for (int code : Refusal.outside(32, 126)) {
            Refusal.argument("append(" + code + ")", Recipes::busy, y -> y.append(code));
        }
        TileFactory y = new TileFactory();
        for (int code = 32; code <= 126; code++) {
            Checks.same("append", y.append(code), code - 31);
        }
    }

    private static TileFactory withFullText() {
        return withText("pack;".repeat(19) + "pack ");
    }

    /** "if the text has 100 characters" */
    private static void promise28RefusedWith100Characters() {
        Refusal.state("character 101", EdgeTextTest::withFullText, y -> y.append(' '));
        TileFactory x = withText("pack;".repeat(19) + "pack");
        Checks.same("character 100", x.append(' '), 100);
        Checks.raisesState("character 101 then", () -> x.append(' '));
        Checks.same("the text is as before", x.firstError(), TileFactory.NONE);
        x.clear();
        Checks.same("after clear", x.append(' '), 1);
        TileFactory y = withFullText();
        y.execute();
        Checks.same("after execute", y.append(' '), 1);
    }

    private static void promise28ArgumentComesFirst() {
        Refusal.argument("append(31) to a full text", EdgeTextTest::withFullText, y -> y.append(31));
        Refusal.argument("append(127) to a full text", EdgeTextTest::withFullText, y -> y.append(127));
    }

    private static void promise29EmptyOrFull() {
        TileFactory x = new TileFactory();
        Checks.same("an empty text", x.clear(), 0);
        Checks.same("and again", x.clear(), 0);
        Checks.same("nothing is saved", x.total(12), 0);
        TileFactory y = withFullText();
        Checks.same("a full text", y.clear(), 100);
        Checks.same("the length then", y.total(15), 0);
        Checks.same("an empty text then", y.clear(), 0);
        Checks.same("its error", y.firstError(), 1);
    }

    /** "(a text without semicolons, also an empty one, is one command)" */
    private static void anEmptyTextIsOneCommand() {
        errorIs("", 1);
        errorIs(" ", 1);
        errorIs(" ".repeat(100), 1);
        errorIs("pack", TileFactory.NONE);
        Checks.same("one command", withText("pack").execute(), 1);
        Refusal.state("execute of an empty text", TileFactory::new, TileFactory::execute);
    }

    private static void semicolonsDivideTheText() {
        errorIs(";", 1);
        errorIs("pack;", 11);
        errorIs(";pack", 1);
        errorIs("pack;;pack", 11);
        errorIs("pack; ;pack", 11);
        errorIs("pack;pack;", 21);
        errorIs("pack;pack", TileFactory.NONE);
        Checks.same("two commands", withText("pack;pack").execute(), 2);
        Checks.same("20 commands", withFullText().execute(), 20);
    }

    /** "separated by one or more blanks; blanks before the first and behind the last word are allowed" */
    private static void blanksAreAllowedAround() {
        errorIs(" pack", TileFactory.NONE);
        errorIs("pack ", TileFactory.NONE);
        errorIs("   pack   ", TileFactory.NONE);
        errorIs("grade 1", TileFactory.NONE);
        errorIs("grade    1", TileFactory.NONE);
        errorIs("  grade 1  ;  pack  ", TileFactory.NONE);
        errorIs("grade1", 1);
        errorIs("gra de 1", 1);
        TileFactory x = withText("   fire  0   0 1000    7 ; grade 1;pack ");
        Checks.same("execute", x.execute(), 3);
        Checks.same("tiles", x.total(3), 56);
    }

    /** "A word consists of all characters up to the next blank or semicolon." */
    private static void aWordGoesUpToTheNextBlankOrSemicolon() {
        errorIs("pack,pack", 1);
        errorIs("pack.", 1);
        errorIs("pack:", 1);
        errorIs("!pack", 1);
        errorIs("pack~", 1);
        errorIs("grade 1;grade 2", TileFactory.NONE);
        errorIs("grade 1,2", 3);
        errorIs("grade 1:", 3);
        errorIs("grade 1/", 3);
    }

    private static void kind1NoWordOrNoneOfThese() {
        for (String word : new String[] {"fire", "grade", "pack", "ship", "drop"}) {
            String cut = word.substring(0, word.length() - 1);
            errorIs(cut, 1);
            errorIs(word.substring(1), 1);
            errorIs(word + word.charAt(0), 1);
            errorIs(cut + "x", 1);
            errorIs("x" + word.substring(1), 1);
            errorIs(word.toUpperCase(java.util.Locale.ROOT), 1);
            errorIs(word, word.equals("pack") ? TileFactory.NONE : 2);
        }
        errorIs("deliver 0 1 1", 1);
        errorIs("undo", 1);
        errorIs("x 1 2 3 4 5", 1);
        errorIs("1", 1);
    }

    private static void argumentsOf(String word, int due) {
        StringBuilder text = new StringBuilder(word);
        for (int count = 0; count <= 6; count++) {
            errorIs(text.toString(), count == due ? TileFactory.NONE : 2);
            errorIs(text + " x", count + 1 == due ? 3 : 2);
            text.append(" 1");
        }
        errorIs(word + " 1".repeat((100 - word.length()) / 2), 2);
    }

    private static void kind2AnotherNumberOfArguments() {
        argumentsOf("fire", 4);
        argumentsOf("grade", 1);
        argumentsOf("pack", 0);
        argumentsOf("ship", 3);
        argumentsOf("drop", 4);
    }

    private static void kind3NoNumberOf1To4Digits() {
        errorIs("grade 0", TileFactory.NONE);
        errorIs("grade 9", TileFactory.NONE);
        errorIs("grade 0000", TileFactory.NONE);
        errorIs("grade 9999", TileFactory.NONE);
        errorIs("grade 10000", 3);
        errorIs("grade 00001", 3);
        errorIs("grade " + "0".repeat(94), 3);
        errorIs("grade 4294967297", 3);
        errorIs("grade -1", 3);
        errorIs("grade +1", 3);
        errorIs("grade 1a", 3);
        errorIs("grade a1", 3);
        errorIs("grade 1.0", 3);
        errorIs("grade 0x1", 3);
        for (int place = 0; place < 4; place++) {
            StringBuilder arguments = new StringBuilder();
            for (int i = 0; i < 4; i++) {
                arguments.append(i == place ? " 12345" : " 1");
            }
            errorIs("fire" + arguments, 3);
            errorIs("drop" + arguments, 3);
            if (place < 3) {
                errorIs("ship" + arguments.substring(0, arguments.length() - 2), 3);
            }
        }
    }

    /** Of each command the kind 1 comes before 2 and 2 before 3; of several commands the first one with an error. */
    private static void theFirstErrorOfSeveral() {
        errorIs("x", 1);
        errorIs("x y", 1);
        errorIs("grade x y", 2);
        errorIs("pack x", 2);
        errorIs("fire x", 2);
        errorIs("pack;grade x;x", 13);
        errorIs("pack;grade;x", 12);
        errorIs("grade x;grade;x", 3);
        errorIs("grade;grade x;x", 2);
        errorIs("pack;pack;pack;pack;pack;pack;pack;pack;pack;pack;grade x", 103);
    }

    private static void promise30NoneIfNoCommandHasAnError() {
        errorIs("fire 0 0 1000 1;grade 1;pack;ship 0 1 1;drop 0 8 1 0", TileFactory.NONE);
        errorIs("fire 9 9 9 9;grade 0;ship 9 9 9999;drop 9999 9999 9999 9999", TileFactory.NONE);
        TileFactory x = withText("pack;x");
        Checks.same("nothing changes", x.firstError(), 11);
        Checks.same("the same again", x.firstError(), 11);
        Checks.same("nothing is saved", x.total(12), 0);
    }

    private static void theLastCommandOfAFullText() {
        errorIs("pack;".repeat(19) + "pack ", TileFactory.NONE);
        errorIs("pack;".repeat(19) + "packs", 191);
        errorIs("pack;".repeat(19) + "pack;", 201);
        errorIs("pack;".repeat(18) + "grade 1;x ", 191);
        errorIs(";".repeat(100), 1);
        errorIs("x".repeat(100), 1);
        errorIs("pack" + " ".repeat(95) + "1", 2);
        errorIs("grade" + " ".repeat(94) + "1", TileFactory.NONE);
        errorIs("grade" + " ".repeat(91) + "1234", TileFactory.NONE);
        errorIs("grade" + " ".repeat(90) + "12345", 3);
    }

    /** "if a command has an error (the buffer stays as it is then)": then no command at all is executed. */
    private static void promise31RefusedIfACommandHasAnError() {
        for (String text : new String[] {"", " ", ";", "pack;", "pack;pack;x", "pack;grade", "fire 0 0 1000 1;grade x",
                "fire 3 0 1000 1;x", "x;pack", "grade 10000"}) {
            Refusal.state("execute of '" + text + "'", () -> withText(text), TileFactory::execute);
        }
        TileFactory x = withText("fire 0 0 1000 1;grade 1;x");
        Checks.raisesState("execute", x::execute);
        Checks.same("the buffer stays", x.total(15), 25);
        Checks.same("its error", x.firstError(), 21);
        Checks.same("nothing is fired", x.total(2), 0);
        Checks.same("nothing is saved", x.total(12), 0);
    }

    /** "up to the first one whose method would throw an exception, which is not executed, and empties the buffer" */
    private static void promise31StopsAtTheFirstThatWouldThrow() {
        TileFactory x = withText("fire 0 0 1000 1;grade 11;fire 0 0 1000 1");
        Checks.same("executed", x.execute(), 1);
        Checks.same("the buffer is empty", x.total(15), 0);
        Checks.same("firings", x.total(2), 1);
        Checks.same("the bench is not graded", x.total(5), 8);
        Checks.same("one event", x.event(1, 0), TileFactory.NONE);
        TileFactory y = withText("pack;pack;pack;grade 1");
        Checks.same("the last one throws", y.execute(), 3);
        TileFactory z = withText("fire 0 0 1000 10;grade 1;ship 0 1 1;pack");
        Checks.same("what was not packed", z.execute(), 2);
        Checks.same("is not packed now", z.total(7), 0);
    }

    private static void promise31NoCommandIsExecuted() {
        TileFactory x = withText("grade 1;fire 0 0 1000 1");
        Checks.same("the first one throws", x.execute(), 0);
        Checks.same("the buffer is empty", x.total(15), 0);
        Checks.same("it is saved", x.total(12), 1);
        Checks.same("nothing is fired", x.total(2), 0);
        Checks.same("undo", x.undo(), 0);
    }

    private static void executedIs(String text, int due) {
        TileFactory x = Recipes.busy();
        x.clear();
        Recipes.write(x, text);
        Checks.same("execute of '" + text + "'", x.execute(), due);
        Checks.same("the buffer after '" + text + "'", x.total(15), 0);
    }

    /** The ranges of the methods hold for the commands too; numbers may begin with zeros. */
    private static void promise31EdgesOfEachCommand() {
        executedIs("fire 0 0 800 1;fire 2 3 1200 100;fire 0002 0003 0800 0001", 3);
        executedIs("fire 3 0 1000 1", 0);
        executedIs("fire 0 4 1000 1", 0);
        executedIs("fire 0 0 799 1", 0);
        executedIs("fire 0 0 1201 1", 0);
        executedIs("fire 0 0 1000 0", 0);
        executedIs("fire 0 0 1000 101", 0);
        executedIs("grade 1;grade 1", 1);
        executedIs("grade 10", 1);
        executedIs("grade 0", 0);
        executedIs("grade 11", 0);
        executedIs("ship 0 1 5;ship 0 2 3", 2);
        executedIs("ship 0 1 6", 0);
        executedIs("ship 4 1 1", 0);
        executedIs("ship 0 0 1", 0);
        executedIs("ship 0 3 1", 0);
        executedIs("ship 0 1 0", 0);
        executedIs("drop 0 8 1 0;drop 0 8 1 6;drop 0 8 2 6", 3);
        executedIs("drop 0 8 1 7", 0);
        executedIs("drop 0 7 1 0", 0);
        executedIs("drop 0 20 1 0", 0);
        executedIs("drop 4 8 1 0", 0);
        executedIs("drop 0 8 3 0", 0);
        executedIs("drop 0 8 0 0", 0);
        executedIs("drop 0 9 1 0", 0);
        executedIs("ship 0 1 5;drop 0 8 1 0", 1);
    }

    /** The arguments of a command are gone when the next one comes, which may have fewer. */
    private static void promise31EachCommandDoesNothingElse() {
        TileFactory x = new TileFactory();
        x.setSharpness(0);
        x.setBoxSize(1);
        Recipes.write(x, "fire 0 0 1000 5;grade 1;pack;fire 0 0 930 3;grade 1;pack;ship 0 1 1;pack");
        Checks.same("executed", x.execute(), 8);
        Checks.same("lots of shades 8 and 1", x.lot(1, 1), 1);
        Checks.same("deliveries", x.total(11), 1);
        Checks.same("boxes of shade 8", x.lot(0, 4), 40);
        Checks.same("boxes of shade 1 but the one that is shipped", x.lot(1, 4), 23);
        Checks.same("loose tiles", x.total(6), 0);
        Checks.same("nothing broke", x.total(4), 0);
        Recipes.write(x, "fire 0 0 1000 5;grade 1");
        Checks.same("grade alone", x.execute(), 2);
        Checks.same("packs nothing", x.total(6), 40);
        Recipes.write(x, "drop 0 8 1 1;fire 0 0 1000 5");
        Checks.same("fire alone", x.execute(), 2);
        Checks.same("grades nothing", x.total(5), 40);
    }

    /** "Undoable, as one call": of all its commands together one state is saved. */
    private static void promise31IsOneCall() {
        TileFactory x = new TileFactory();
        x.setSharpness(1);
        Recipes.write(x, "pack;".repeat(19) + "pack ");
        Checks.same("20 commands", x.execute(), 20);
        Checks.same("one state", x.total(12), 2);
        Recipes.write(x, "fire 0 0 1000 100;grade 1;pack;ship 0 1 9;drop 0 8 1 3");
        Checks.same("5 commands", x.execute(), 5);
        Checks.same("one state more", x.total(12), 3);
        Checks.same("undo", x.undo(), 2);
        Checks.same("no firing", x.total(2), 0);
        Checks.same("no lot", x.total(10), 0);
        Checks.same("no delivery", x.total(11), 0);
        Checks.same("no event", x.event(0, 0), TileFactory.NONE);
        Checks.same("nothing broke", x.total(4), 0);
    }
}
