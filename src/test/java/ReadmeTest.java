import java.io.IOException;
import java.lang.reflect.InvocationTargetException;
import java.lang.reflect.Method;
import java.nio.file.Files;
import java.nio.file.Path;
import java.util.Arrays;
import java.util.List;
import java.util.Set;
import java.util.TreeSet;
import java.util.regex.Matcher;
import java.util.regex.Pattern;
import java.util.stream.Collectors;

/** README.md says what the class does: its examples are run, its refusals are those of the face. */
public final class ReadmeTest {
    private static final Pattern MADE = Pattern.compile("PalletLayers x = new PalletLayers\\((-?\\d+), (-?\\d+)\\);.*");
    private static final Pattern CALL = Pattern.compile("x\\.(\\w+)\\(([-\\d, ]*)\\);\\s+// (throws \\w+|nothing|true|"
        + "false|-?\\d+)(:.*)?");
    private static final Pattern ITEM = Pattern.compile("- `(\\w+)\\(");
    private static final Pattern EXCEPTION = Pattern.compile("\\w+Exception");

    private static Method method(String name) {
        for (Method each : PalletLayers.class.getMethods()) {
            if (each.getDeclaringClass() == PalletLayers.class && each.getName().equals(name)) {
                return each;
            }
        }
        throw new AssertionError("README.md calls " + name + ", which there is not");
    }

    private static String outcome(PalletLayers x, String name, String arguments) throws IllegalAccessException {
        Object[] a = arguments.isEmpty() ? new Object[0]
            : Arrays.stream(arguments.split(", ")).map(Integer::valueOf).toArray();
        try {
            Object answer = method(name).invoke(x, a);
            return answer == null ? "nothing" : answer.toString();
        } catch (InvocationTargetException thrown) {
            return "throws " + thrown.getCause().getClass().getSimpleName();
        }
    }

    private static void examples(List<String> lines) throws IllegalAccessException {
        boolean inside = false;
        PalletLayers x = null;
        Set<String> called = new TreeSet<>();
        for (String line : lines) {
            if (line.startsWith("```")) {
                inside = line.equals("```java");
                x = null;
                continue;
            }
            Matcher made = MADE.matcher(line);
            Matcher call = CALL.matcher(line);
            if (inside && made.matches()) {
                x = new PalletLayers(Integer.parseInt(made.group(1)), Integer.parseInt(made.group(2)));
            } else if (inside) {
                boolean isCall = call.matches() && x != null;
                Checks.holds("an example's line is a call with its answer: " + line, isCall);
                if (isCall) {
                    Checks.same(line, outcome(x, call.group(1), call.group(2)), call.group(3));
                    called.add(call.group(1));
                }
            }
        }
        Checks.same("every call of the face has an example", called.toString(), faceNames().toString());
    }

    private static Set<String> faceNames() {
        return Arrays.stream(PalletLayers.class.getMethods())
            .filter(each -> each.getDeclaringClass() == PalletLayers.class)
            .map(Method::getName).collect(Collectors.toCollection(TreeSet::new));
    }

    /** An item goes on to the next one or to an empty line. */
    private static void items(List<String> lines) {
        Set<String> told = new TreeSet<>();
        for (int i = 0; i < lines.size(); i++) {
            Matcher item = ITEM.matcher(lines.get(i));
            if (!item.lookingAt() || !faceNames().contains(item.group(1))) {
                continue;
            }
            StringBuilder text = new StringBuilder(lines.get(i));
            for (int j = i + 1; lines.get(j).startsWith("  "); j++) {
                text.append('\n').append(lines.get(j));
            }
            Set<String> named = EXCEPTION.matcher(text).results().map(found -> found.group())
                .collect(Collectors.toCollection(TreeSet::new));
            Set<String> declared = Arrays.stream(method(item.group(1)).getExceptionTypes()).map(Class::getSimpleName)
                .collect(Collectors.toCollection(TreeSet::new));
            Checks.same("README.md on " + item.group(1), named.toString(), declared.toString());
            Checks.holds(item.group(1) + " is told once", told.add(item.group(1)));
        }
        Checks.same("every call of the face is told", told.toString(), faceNames().toString());
    }

    /** Each test of the project is named with what it tests. */
    private static void tests(List<String> lines) throws IOException {
        String text = String.join("\n", lines);
        try (var files = Files.list(Path.of("src/test/java"))) {
            for (Path file : files.toList()) {
                String name = file.getFileName().toString().replace(".java", "");
                Checks.holds("README.md tells of " + name, text.contains("`" + name + "`"));
            }
        }
    }

    public static void main(String[] args) throws IOException, IllegalAccessException {
        List<String> lines = Files.readAllLines(Path.of("README.md"));
        examples(lines);
        items(lines);
        tests(lines);
        Checks.end();
    }
}
