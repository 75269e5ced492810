import java.io.IOException;
import java.lang.reflect.Method;
import java.lang.reflect.Modifier;
import java.nio.file.DirectoryStream;
import java.nio.file.Files;
import java.nio.file.Path;

/** README.md: what its examples answer, and that it tells of every call and every test; runs at the project's root. */
public final class ReadmeTest {
    private static final Path TESTS = Path.of("src", "test", "java");

    public static void main(String[] args) throws IOException {
        firstExample();
        secondExample();
        String readme = Files.readString(Path.of("README.md"));
        examplesAreThose(readme);
        everyCall(readme);
        everyTest(readme);
        Due.end();
    }

    private static void firstExample() {
        CycleChip chip = new CycleChip(1, 8);
        chip.poke(0, 0x00500093);
        chip.poke(1, 0x10102023);
        chip.poke(2, 0x0000006f);
        int acted = chip.run(20);
        int first = chip.actCycle(acted - 1);
        int word = chip.peek(64);
        Due.same("acted", acted, 9);
        Due.same("first", first, 5);
        Due.same("word", word, 5);
    }

    private static void secondExample() {
        CycleChip echo = new CycleChip(1, 8);
        echo.poke(0, 0x000010b7);
        echo.poke(1, 0x0300a103);
        echo.poke(2, 0xfe014ee3);
        echo.poke(3, 0x0220a823);
        echo.poke(4, 0xff5ff06f);
        echo.plan(30, 0, 65);
        echo.run(100);
        long many = echo.sent(-1);
        long what = echo.sent(0) % 256;
        long when = echo.sent(0) / 256;
        Due.same("many", many, 1);
        Due.same("what", what, 65);
        Due.same("when", when, 46);
    }

    /** Each line of code in README.md must stand in this file too, where it is run. */
    private static void examplesAreThose(String readme) throws IOException {
        String here = Files.readString(TESTS.resolve("ReadmeTest.java"));
        boolean inside = false;
        int lines = 0;
        for (String line : readme.split("\n")) {
            if (line.startsWith("```")) {
                inside = line.equals("```java");
            } else if (inside) {
                String statement = line.split("//")[0].trim();
                Due.same("ReadmeTest runs " + statement, here.contains("\n        " + statement + "\n"), true);
                lines++;
            }
        }
        Due.same("lines of code", lines, 18);
    }

    private static void everyCall(String readme) {
        Due.same("it tells of the constructor", readme.contains("`new CycleChip(latency, lines)`"), true);
        for (Method m : CycleChip.class.getDeclaredMethods()) {
            if (Modifier.isPublic(m.getModifiers())) {
                Due.same("it tells of " + m.getName(), readme.contains("| `" + m.getName() + "("), true);
            }
        }
    }

    private static void everyTest(String readme) throws IOException {
        Due.same("it tells of .ci/run", readme.contains("\n.ci/run\n"), true);
        try (DirectoryStream<Path> files = Files.newDirectoryStream(TESTS, "*.java")) {
            for (Path file : files) {
                String test = file.getFileName().toString().replace(".java", "");
                Due.same("it tells of " + test, readme.contains("`" + test + "`"), true);
            }
        }
    }
}
