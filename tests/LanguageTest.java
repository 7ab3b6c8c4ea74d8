import java.io.IOException;
import java.nio.file.Files;
import java.nio.file.Path;
import java.util.List;

/** Some of the rules of LANGUAGE.md that can be seen from the text of the class; run from the project's folder. */
final class LanguageTest {
    private static final String[] RULED_OUT = {"->", "::", "catch", "throw", "finally", "synchronized", "assert ",
        "while (true)", "for (;;)", "static {", "package ", "public static void", "random", "currentTime", "Thread",
        "System.out", "equals(", "hashCode", "toString", "float ", "double "};

    public static void main(String[] args) throws IOException {
        List<String> lines = Files.readAllLines(Path.of("src/main/java/PuddleStates.java"));
        int classes = 0;
        int started = 0;
        for (int i = 0; i < lines.size(); i++) {
            String line = lines.get(i);
            String at = "line " + (i + 1) + ": ";
            for (String word : RULED_OUT) {
                Due.is(at + word, line.contains(word) ? 1 : 0, 0);
            }
            Due.is(at + "import", line.startsWith("import ") && !line.equals("import java.util.Arrays;") ? 1 : 0, 0);
            Due.is(at + "its signs", line.chars().allMatch(LanguageTest::plain) ? 1 : 0, 1);
            classes += line.contains(" class ") && line.endsWith("{") ? 1 : 0;
            started = line.endsWith(") {") && !line.contains("if (") && !line.contains("for (") ? i : started;
            Due.is(at + "a method of over 60 lines", line.trim().equals("}") && i - started > 60 ? 1 : 0, 0);
        }
        Due.is("classes", classes <= 12 ? 1 : 0, 1);
        Due.end("LanguageTest");
    }

    private static boolean plain(int sign) {
        return sign > 0 && sign < 128;
    }
}
