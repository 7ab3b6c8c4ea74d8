import java.io.IOException;
import java.lang.reflect.InvocationTargetException;
import java.lang.reflect.Method;
import java.lang.reflect.Modifier;
import java.nio.file.Files;
import java.nio.file.Path;
import java.util.List;
import java.util.regex.Matcher;
import java.util.regex.Pattern;

/** README.md's example answers as it says, and every call has a row there; run from the project's folder. */
final class ReadmeTest {
    private static final Pattern NEW = Pattern.compile("PuddleStates p = new PuddleStates\\(\\);");
    private static final Pattern WRITTEN =
        Pattern.compile("for \\(char c : \"([^\"]+)\"\\.toCharArray\\(\\)\\) p\\.write\\(c\\);");
    private static final Pattern CALL = Pattern.compile("p\\.(\\w+)\\(([^)]*)\\); +// (-?\\d+)");
    private static final Pattern ROW = Pattern.compile("\\| `(\\w+)\\(([^)]*)\\)` \\|.*");

    public static void main(String[] args) throws IOException, ReflectiveOperationException {
        List<String> lines = Files.readAllLines(Path.of("README.md"));
        example(lines);
        rows(lines);
        constants(lines);
        Due.is("README.md names .ci/run", lines.contains("    .ci/run") ? 1 : 0, 1);
        Due.end("ReadmeTest");
    }

    private static void example(List<String> lines) throws ReflectiveOperationException {
        int from = lines.indexOf("```java");
        int calls = 0;
        PuddleStates p = null;
        for (int i = from + 1; from >= 0 && i < lines.size() && !lines.get(i).equals("```"); i++) {
            Matcher written = WRITTEN.matcher(lines.get(i));
            Matcher call = CALL.matcher(lines.get(i));
            if (NEW.matcher(lines.get(i)).matches()) {
                p = new PuddleStates();
            } else if (written.matches() && p != null) {
                Due.write(p, written.group(1));
            } else if (call.matches() && p != null) {
                calls++;
                Due.is("README.md: " + lines.get(i), answer(p, call), Integer.parseInt(call.group(3)));
            } else {
                Due.is("README.md: a line of the example that can't be run: " + lines.get(i), 1, 0);
            }
        }
        Due.is("README.md has an example", calls > 0 ? 1 : 0, 1);
    }

    private static int answer(PuddleStates p, Matcher call) throws ReflectiveOperationException {
        String[] told = call.group(2).isEmpty() ? new String[0] : call.group(2).split(", ");
        Method method = named(call.group(1));
        Object[] arguments = new Object[told.length];
        for (int i = 0; i < told.length; i++) {
            boolean truth = method.getParameterTypes()[i] == boolean.class;
            arguments[i] = truth ? (Object) Boolean.valueOf(told[i]) : (Object) Integer.valueOf(told[i]);
        }
        try {
            return (Integer) method.invoke(p, arguments);
        } catch (InvocationTargetException thrown) {
            throw new IllegalStateException("README.md: " + call.group() + " threw", thrown);
        }
    }

    private static Method named(String name) {
        for (Method method : PuddleStates.class.getDeclaredMethods()) {
            if (Modifier.isPublic(method.getModifiers()) && method.getName().equals(name)) {
                return method;
            }
        }
        throw new IllegalStateException("README.md: there is no call " + name);
    }

    private static void rows(List<String> lines) {
        int rows = 0;
        for (String line : lines) {
            Matcher row = ROW.matcher(line);
            if (row.matches()) {
                rows++;
                int told = row.group(2).isEmpty() ? 0 : row.group(2).split(", ").length;
                Due.is("README.md: numbers of " + row.group(1), told, named(row.group(1)).getParameterCount());
            }
        }
        int calls = 0;
        for (Method method : PuddleStates.class.getDeclaredMethods()) {
            if (Modifier.isPublic(method.getModifiers())) {
                calls++;
                String start = "| `" + method.getName() + "(";
                Due.is("README.md: rows of " + method.getName(),
                    lines.stream().filter(line -> line.startsWith(start)).count(), 1);
            }
        }
        Due.is("README.md: rows", rows, calls);
    }

    private static void constants(List<String> lines) {
        String[] names = {"BAD", "NO", "FULL", "NONE"};
        int[] values = {PuddleStates.BAD, PuddleStates.NO, PuddleStates.FULL, PuddleStates.NONE};
        for (int i = 0; i < names.length; i++) {
            String start = "| `" + names[i] + "` | " + values[i] + " |";
            Due.is("README.md: " + names[i], lines.stream().filter(line -> line.startsWith(start)).count(), 1);
        }
    }
}
