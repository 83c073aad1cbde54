import java.io.IOException;
import java.lang.reflect.Method;
import java.lang.reflect.Modifier;
import java.nio.file.Files;
import java.nio.file.Path;
import java.util.Set;
import java.util.TreeSet;
import java.util.regex.Matcher;
import java.util.regex.Pattern;

/** README.md shows every call of the face, and each call of its example answers what stands behind it. */
public final class ReadmeTests {
    private static final Pattern CALL = Pattern.compile("x\\.((\\w+)\\([^)]*\\)); *// (-?[A-Z0-9_]+)(:.*)?");

    public static void main(String[] args) throws IOException {
        Due due = new Due();
        Calls calls = new Calls(due, "README.md", new LeastCost());
        Set<String> shown = new TreeSet<>();
        for (String line : Files.readAllLines(Path.of("README.md"))) {
            Matcher call = CALL.matcher(line);
            if (call.matches()) {
                shown.add(call.group(2));
                calls.due(call.group(1) + " = " + call.group(3));
            } else {
                due.holds("README.md: a call with its answer: " + line, !line.startsWith("x."));
            }
        }
        due.holds("README.md shows every call, not only " + shown, shown.equals(face()));
        due.finish();
    }

    private static Set<String> face() {
        Set<String> names = new TreeSet<>();
        for (Method method : LeastCost.class.getDeclaredMethods()) {
            if (Modifier.isPublic(method.getModifiers())) {
                names.add(method.getName());
            }
        }
        return names;
    }
}
