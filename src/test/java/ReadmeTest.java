import java.io.IOException;
import java.lang.reflect.Method;
import java.nio.file.Files;
import java.nio.file.Path;
import java.util.ArrayList;
import java.util.List;
import java.util.Set;
import java.util.TreeSet;
import java.util.regex.Matcher;
import java.util.regex.Pattern;

/** The run of calls that README.md shows, with the answers that it shows, read from README.md itself. */
public final class ReadmeTest {
    private static final String NEW_OBJECT = "PropertyShrink x = new PropertyShrink();";
    /** A call with its answer behind it, and perhaps a colon and words: x.size(0); // 5: choices */
    private static final Pattern CALL = Pattern.compile("x\\.(\\w+)\\(([^()]*)\\); +// (-?\\d+|true|false)(: .*)?");
    private static final Due due = new Due();

    public static void main(String[] args) throws IOException, ReflectiveOperationException {
        List<String> readme = Files.readAllLines(Path.of("README.md"));
        List<String> run = block(readme, "```java");
        due.is("README.md shows a run of calls on a new object", !run.isEmpty() && run.get(0).equals(NEW_OBJECT), true);
        makeCalls(run);
        due.is("README.md tells .ci/run", block(readme, "```sh").equals(List.of(".ci/run")), true);
        due.is(".ci/run can be run", Files.isExecutable(Path.of(".ci/run")), true);
        due.end();
    }

    /** The lines of all blocks that begin so. */
    private static List<String> block(List<String> lines, String begins) {
        List<String> inside = new ArrayList<>();
        boolean in = false;
        for (String line : lines) {
            if (in && !line.equals("```")) {
                inside.add(line);
            }
            in = in ? !line.equals("```") : line.equals(begins);
        }
        due.is("README.md: the last " + begins + " has an end", in, false);
        return inside;
    }

    private static void makeCalls(List<String> run) throws ReflectiveOperationException {
        PropertyShrink x = new PropertyShrink();
        Set<String> called = new TreeSet<>();
        for (String line : run.subList(Math.min(1, run.size()), run.size())) {
            Matcher call = CALL.matcher(line);
            if (call.matches()) {
                Method method = methodOf(call.group(1));
                Object got = method.invoke(x, given(method, call.group(2)));
                due.is("'" + line + "' holds, where the class gave " + got, got.toString().equals(call.group(3)), true);
                called.add(method.getName());
            } else {
                due.is("a call with its answer, or a remark: " + line,
                    line.isEmpty() || line.startsWith("// "), true);
            }
        }
        due.is("the whole face is shown, not only " + called, called.equals(face()), true);
    }

    private static Method methodOf(String name) throws NoSuchMethodException {
        for (Method method : PropertyShrink.class.getMethods()) {
            if (method.getName().equals(name)) {
                return method;
            }
        }
        throw new NoSuchMethodException(name);
    }

    /** A long is written with its L, so that each line is Java as it stands. */
    private static Object[] given(Method method, String words) {
        String[] split = words.isEmpty() ? new String[0] : words.split(", ");
        Object[] values = new Object[split.length];
        for (int i = 0; i < split.length; i++) {
            if (method.getParameterTypes()[i] == long.class) {
                values[i] = Long.valueOf(split[i].replaceFirst("L$", ""));
            } else {
                values[i] = Integer.valueOf(split[i]);
            }
        }
        return values;
    }

    private static Set<String> face() {
        Set<String> names = new TreeSet<>();
        for (Method method : PropertyShrink.class.getMethods()) {
            if (method.getDeclaringClass() == PropertyShrink.class) {
                names.add(method.getName());
            }
        }
        return names;
    }
}
