import java.lang.reflect.Method;
import java.lang.reflect.Modifier;
import java.nio.file.Files;
import java.nio.file.Path;
import java.util.List;
import java.util.stream.Stream;

/** README.md tells of every call and every test, and its example is the code that is run here. */
public final class ReadmeTest {
    private static final Path TESTS = Path.of("src/test/java");

    public static void main(String[] args) throws Exception {
        Due due = new Due("ReadmeTest");
        List<String> readme = Files.readAllLines(Path.of("README.md"));
        example(due);
        due.is("README's example", between(readme, "```java", "```"), exampleHere());
        everyCall(due, String.join("\n", readme));
        everyTest(due, String.join("\n", readme));
        due.end();
    }

    private static void example(Due due) {
        // README begins
        LayerMoisture kiln = new LayerMoisture(4, 2);   // 4 layers a board, at most 2 boards
        kiln.rate(0, 2, 1);                             // how water moves in wood of kind 0
        kiln.board(0, 40, 0.8, 0);                      // board 0: thickness, wetness, kind
        kiln.air(300, 0.5, 4);                          // kelvin, damp, speed
        kiln.limit(0, 0.01);                            // tell the first hour with more load than this
        for (char c : "h0:310,60;w50:330,30".toCharArray()) {
            kiln.unit(c);                               // the schedule comes character by character
        }
        int steps = kiln.schedule();                    // 2; below 0: -1 less the place of a fault
        int hours = kiln.run(100);                      // 100; below 0: an hour was refused
        double wet = kiln.mean(0);                      // 0.245..
        long gone = kiln.grams();                       // 1419
        int hour = kiln.check(0);                       // 69; LayerMoisture.NONE if there was none
        // README ends
        due.is("steps", steps, 2);
        due.is("hours", hours, 100);
        due.is("wet, in thousandths", (int) (wet * 1000), 245);
        due.is("gone", gone, 1419L);
        due.is("hour", hour, 69);
    }

    private static String exampleHere() throws Exception {
        List<String> here = Files.readAllLines(TESTS.resolve("ReadmeTest.java"));
        return between(here, "        // README begins", "        // README ends");
    }

    /** The lines between the first one that is the first mark and the next that is the other. */
    private static String between(List<String> lines, String first, String other) {
        int start = lines.indexOf(first) + 1;
        int end = start + lines.subList(start, lines.size()).indexOf(other);
        return String.join("\n", lines.subList(start, end)).stripIndent();
    }

    private static void everyCall(Due due, String readme) {
        for (Method m : LayerMoisture.class.getDeclaredMethods()) {
            if (Modifier.isPublic(m.getModifiers())) {
                due.is("README tells of " + m.getName(), readme.contains("| `" + m.getName() + "("), true);
            }
        }
    }

    private static void everyTest(Due due, String readme) throws Exception {
        try (Stream<Path> files = Files.list(TESTS)) {
            for (Path file : files.filter(f -> f.toString().endsWith("Test.java")).toList()) {
                String name = file.getFileName().toString().replace(".java", "");
                due.is("README tells of " + name, readme.contains("| `" + name + "` |"), true);
            }
        }
    }
}
