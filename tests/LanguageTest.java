import java.io.IOException;
import java.nio.file.Files;
import java.nio.file.Path;
import java.util.List;

/** Some of the rules of LANGUAGE.md that can be seen from the text of the class; run from the project's folder. */
final class LanguageTest {
    private static final String[] RULED_OUT = {"::", "finally", "synchronized", "assert ", "while (true)", "for (;;)",
        "static {", "package ", "Random", "random(", "currentTime", "nanoTime", "Thread", "System.out", "System.err",
        "System.exit", "Exact(", "hashCode", "toString() {", "try (", "_VALUE"};
    /** What the machine throws, and the classes above it: no call is answered by catching these. */
    private static final String[] NOT_CAUGHT = {"Throwable", "Exception e", "RuntimeException", "IndexOutOfBounds",
        "NullPointer", "ArithmeticException", "ClassCast", "NegativeArraySize", "ArrayStore", "Error"};
    private static final int MOST_LINES = 60, MOST_CLASSES = 12;

    public static void main(String[] args) throws IOException {
        List<String> lines = Files.readAllLines(Path.of("src/main/java/PuddleStates.java"));
        int classes = 0;
        int started = 0;
        for (int i = 0; i < lines.size(); i++) {
            String line = lines.get(i);
            String at = "line " + (i + 1) + ": ";
            lineOf(at, line);
            classes += line.contains(" class ") && line.endsWith("{") ? 1 : 0;
            started = line.endsWith(") {") && !line.contains("if (") && !line.contains("for (") ? i : started;
            Due.is(at + "a method of over " + MOST_LINES + " lines",
                line.trim().equals("}") && i - started > MOST_LINES ? 1 : 0, 0);
        }
        Due.is("classes", classes <= MOST_CLASSES ? 1 : 0, 1);
        Due.end("LanguageTest");
    }

    private static void lineOf(String at, String line) {
        for (String word : RULED_OUT) {
            Due.is(at + word, line.contains(word) ? 1 : 0, 0);
        }
        for (String thrown : NOT_CAUGHT) {
            Due.is(at + "catch " + thrown, line.contains("catch (") && line.contains(thrown) ? 1 : 0, 0);
        }
        boolean ofSwitch = line.trim().startsWith("case ") || line.trim().startsWith("default");
        Due.is(at + "a lambda", line.contains("->") && !ofSwitch ? 1 : 0, 0);
        Due.is(at + "import", line.startsWith("import ") && !line.startsWith("import java.util.") ? 1 : 0, 0);
        Due.is(at + "its signs", line.chars().allMatch(LanguageTest::plain) ? 1 : 0, 1);
    }

    private static boolean plain(int sign) {
        return sign > 0 && sign < 128;
    }
}
