import java.io.IOException;
import java.nio.file.Files;
import java.nio.file.Path;

/** The example of README.md: its calls stand there word by word, and answer what it says. */
public final class ReadmeTest {
    private final String readme;

    private ReadmeTest(String readme) {
        this.readme = readme;
    }

    public static void main(String[] args) throws IOException {
        ReadmeTest test = new ReadmeTest(Files.readString(Path.of("README.md")).replaceAll(" +", " "));
        test.example();
        test.exampleAsText();
        Checks.finish();
    }

    private void example() {
        TileFactory x = new TileFactory();
        line("fire(0, 0, 1000, 20)", x.fire(0, 0, 1000, 20), 0);
        line("grade(2)", x.grade(2), 14);
        line("pack()", x.pack(), 15);
        line("deliver(0, 1, 3)", x.deliver(0, 1, 3), 0);
        line("delivery(0, 4)", x.delivery(0, 4), 3000);
        line("undo()", x.undo(), 3);
        Checks.same("deliveries", x.total(11), 0);
    }

    private void line(String call, long got, long due) {
        Checks.same(call, got, due);
        stands("factory." + call + "; // " + due + " ");
    }

    private void exampleAsText() {
        String text = "fire 0 0 1000 20;grade 2;pack;ship 0 1 3";
        TileFactory x = new TileFactory();
        Recipes.write(x, text);
        Checks.same(text, x.execute(), 4);
        Checks.same("value", x.delivery(0, 4), 3000);
        stands("`" + text + "`");
        stands("which answers 4,");
    }

    private void stands(String part) {
        if (!readme.contains(part)) {
            Checks.fail("README.md does not say: " + part);
        }
    }
}
