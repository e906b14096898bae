import java.io.IOException;
import java.lang.reflect.Constructor;
import java.lang.reflect.Field;
import java.lang.reflect.Method;
import java.lang.reflect.Modifier;
import java.nio.file.Files;
import java.nio.file.Path;
import java.util.ArrayList;
import java.util.List;
import java.util.Set;
import java.util.regex.Matcher;
import java.util.regex.Pattern;

/** Rules of LANGUAGE.md that can be seen from the source's text or from the compiled class. */
public final class LanguageTest {
    private static final Path SOURCE = Path.of("src/main/java/PalletLayers.java");
    private static final Set<String> MAY_IMPORT = Set.of("java.util.NoSuchElementException", "java.util.ArrayList",
        "java.util.List", "java.util.Arrays", "java.util.Iterator");
    private static final Set<String> MAY_THROW = Set.of("IllegalStateException", "IllegalArgumentException",
        "IndexOutOfBoundsException", "ArithmeticException", "UnsupportedOperationException",
        "NoSuchElementException", "RuntimeException");
    /** DOC.md asks for it in pattern, though rule 6 does not list it: README.md tells of that. */
    private static final String BY_THE_DOCUMENT = "ArrayIndexOutOfBoundsException";
    private static final String[] NOT_TO_BE_FOUND = {"\\bpackage\\b", "->", "::", "\\btry\\b", "\\bcatch\\b",
        "\\bfinally\\b", "\\bsynchronized\\b", "\\bassert\\b", "\\bvolatile\\b", "\\bThread\\b", "\\bRandom\\b",
        "\\bSystem\\.(?!arraycopy)", "\\bstatic \\{", "Exact\\(", "\\bjava\\.(?!util\\.)", "\\bgetClass\\b",
        "\\bequals\\b", "\\bhashCode\\b", "\\btoString\\b", "\\bInteger\\b", "\\bdouble\\b", "\\bfloat\\b",
        "while \\(true\\)", "for \\(;"};
    private static final int MOST_LINES = 60;
    private static final int MOST_PARAMETERS = 7;
    private static final int MOST_CLASSES = 12;
    private static final int MOST_FIELDS = 20;

    private static String withoutCommentsAndTexts(String source) {
        return source.replaceAll("(?s)/\\*.*?\\*/", "").replaceAll("//[^\n]*", "")
            .replaceAll("\"(\\\\.|[^\"\\\\])*\"", "\"\"");
    }

    private static void words(String code) {
        for (String not : NOT_TO_BE_FOUND) {
            Checks.holds("the source is without " + not, !Pattern.compile(not).matcher(code).find());
        }
        Matcher imported = Pattern.compile("import ([\\w.]+);").matcher(code);
        while (imported.find()) {
            Checks.holds("rule 4: import " + imported.group(1), MAY_IMPORT.contains(imported.group(1)));
        }
    }

    // Rule 6: "throw new E() or throw new E("a written text")"
    private static void thrown(String code) {
        Matcher each = Pattern.compile("\\bthrow\\b(?: new (\\w+)\\((?:\"\")?\\);)?").matcher(code);
        int byTheDocument = 0;
        while (each.find()) {
            String name = String.valueOf(each.group(1));
            byTheDocument += name.equals(BY_THE_DOCUMENT) ? 1 : 0;
            Checks.holds("rule 6: throw " + name, MAY_THROW.contains(name) || name.equals(BY_THE_DOCUMENT));
        }
        Checks.due("rule 6: " + BY_THE_DOCUMENT + " in one place alone", byTheDocument, 1);
    }

    /** A method is what stands between a line with ( and the } as far to the right as it. */
    private static void methods(List<String> lines) {
        Pattern header = Pattern.compile("^( {4}| {8})(?:(?:public|private|static|final) )*(?:[\\w\\[\\]]+ )?(\\w+)\\(.*");
        int seen = 0;
        for (int i = 0; i < lines.size(); i++) {
            Matcher start = header.matcher(lines.get(i));
            if (!start.matches() || lines.get(i).endsWith(";")
                    || Set.of("if", "for", "while", "switch").contains(start.group(2))) {
                continue;
            }
            int end = i;
            while (end < lines.size() && !lines.get(end).equals(start.group(1) + "}")) {
                end++;
            }
            seen++;
            Checks.holds("rule 11: " + start.group(2) + " is short", end - i < MOST_LINES);
            boolean isConstructor = Character.isUpperCase(start.group(2).charAt(0));
            String body = String.join("\n", lines.subList(i, end));
            Checks.holds("rule 6: no throw in a constructor", !isConstructor || !body.contains("throw "));
        }
        Checks.holds("methods are found in the text: " + seen, seen > PalletLayers.class.getMethods().length);
    }

    private static List<Class<?>> classes() {
        List<Class<?>> all = new ArrayList<>();
        all.add(PalletLayers.class);
        for (int i = 0; i < all.size(); i++) {
            all.addAll(List.of(all.get(i).getDeclaredClasses()));
        }
        return all;
    }

    private static void members(Class<?> each) {
        int fields = 0;
        for (Field field : each.getDeclaredFields()) {
            boolean isStatic = Modifier.isStatic(field.getModifiers());
            fields += isStatic ? 0 : 1;
            Checks.holds("rule 5: " + field + " is a constant", !isStatic || Modifier.isFinal(field.getModifiers())
                && Set.of("int", "long", "boolean", "char", "String").contains(field.getType().getSimpleName()));
        }
        Checks.holds("rule 11: " + each + " has " + fields + " fields", fields <= MOST_FIELDS);
        for (Method method : each.getDeclaredMethods()) {
            Checks.holds("rule 11: parameters of " + method, method.getParameterCount() <= MOST_PARAMETERS);
        }
        for (Constructor<?> made : each.getDeclaredConstructors()) {
            Checks.holds("rule 11: parameters of " + made, made.getParameterCount() <= MOST_PARAMETERS);
        }
    }

    public static void main(String[] args) throws IOException {
        String source = Files.readString(SOURCE);
        Checks.holds("rule 3: characters 0 to 255", source.chars().allMatch(c -> c <= 255));
        String code = withoutCommentsAndTexts(source);
        words(code);
        thrown(code);
        methods(List.of(code.split("\n")));
        List<Class<?>> all = classes();
        Checks.holds("rule 11: classes", all.size() <= MOST_CLASSES);
        for (Class<?> each : all) {
            members(each);
            Checks.holds("rule 1: " + each + " is static and not shown", each == PalletLayers.class
                || Modifier.isStatic(each.getModifiers()) && !Modifier.isPublic(each.getModifiers())
                && !Modifier.isProtected(each.getModifiers()));
        }
        Checks.end();
    }
}
