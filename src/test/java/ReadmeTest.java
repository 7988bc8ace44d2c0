import java.io.File;
import java.io.IOException;
import java.nio.file.Files;
import java.nio.file.Path;

/** README.md, from the project's directory: its example answers what its comments say, and its table has every test. */
public final class ReadmeTest {
    private static final Check CHECK = new Check();

    public static void main(String[] args) throws IOException {
        String readme = Files.readString(Path.of("README.md"));
        askExample(readme);
        askTable(readme);
        CHECK.end();
    }

    /** The lines of the example, with the answers put in where the comments have them. */
    private static void askExample(String readme) {
        RiscHart hart = new RiscHart();
        hart.plant(0, 0x00500093);
        hart.plant(4, 0x00000073);
        int retired = hart.run(2000);
        long cause = hart.count(1);
        int x1 = hart.register(1);
        has(readme, "RiscHart hart = new RiscHart();\n");
        has(readme, "hart.plant(0, 0x00500093);        // x1 = x0 + 5\n");
        has(readme, "hart.plant(4, 0x00000073);        // CALL\n");
        has(readme, "int retired = hart.run(2000);     // " + retired + ": the second step traps\n");
        has(readme, "long cause = hart.count(1);       // " + cause + ": CALL\n");
        has(readme, "int x1 = hart.register(1);        // " + x1 + "\n");
    }

    private static void askTable(String readme) {
        String[] files = new File("src/test/java").list();
        int tests = 0;
        for (String file : files == null ? new String[0] : files) {
            if (file.endsWith("Test.java")) {
                tests++;
                has(readme, "\n| " + file.replace(".java", "") + " | ");
            }
        }
        CHECK.same("rows of tests", readme.split("\n\\| [A-Za-z]+Test \\| ", -1).length - 1, tests);
    }

    private static void has(String readme, String text) {
        CHECK.same("whether README.md has \"" + text.strip() + "\"", readme.contains(text) ? 1 : 0, 1);
    }
}
