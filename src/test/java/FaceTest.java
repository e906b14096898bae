import java.lang.reflect.Method;
import java.lang.reflect.Modifier;
import java.util.Arrays;
import java.util.Set;
import java.util.TreeSet;
import java.util.stream.Collectors;

/** The class shows the document's face and nothing else (LANGUAGE.md, rule 1). */
public final class FaceTest {
    private static final String[] FACE = {
        "int kind(int,int,int,int) IllegalArgumentException,UnsupportedOperationException",
        "int search(int,int) NoSuchElementException,IllegalArgumentException,IllegalStateException",
        "int pattern(int,int,int) NoSuchElementException,IllegalArgumentException,ArrayIndexOutOfBoundsException",
        "boolean exact(int) NoSuchElementException",
        "int bound(int) NoSuchElementException",
        "void rules(int,int,int) IllegalArgumentException",
        "int pallet() UnsupportedOperationException",
        "int put(int,int,int) NoSuchElementException,IllegalArgumentException,IllegalStateException,"
            + "UnsupportedOperationException",
        "int fill(int,int,int) NoSuchElementException,IllegalArgumentException,IllegalStateException",
        "int take(int) NoSuchElementException,IllegalStateException",
        "int support(int,int,int) NoSuchElementException",
        "int told(int,int) NoSuchElementException,IllegalArgumentException",
        "int layer(int,int,int) NoSuchElementException,IllegalArgumentException",
        "int truck(int,int) NoSuchElementException,IllegalArgumentException,IllegalStateException",
        "int unload(int) IllegalArgumentException,IllegalStateException",
        "int order(int) NoSuchElementException",
        "int count(int) ",
    };

    private static String names(Class<?>[] classes) {
        return Arrays.stream(classes).map(Class::getSimpleName).collect(Collectors.joining(","));
    }

    public static void main(String[] args) {
        Class<?> face = PalletLayers.class;
        Checks.holds("public and final", face.getModifiers() == (Modifier.PUBLIC | Modifier.FINAL));
        Checks.due("one constructor", face.getDeclaredConstructors().length, 1);
        Checks.holds("constructor(int, int)", names(face.getConstructors()[0].getParameterTypes()).equals("int,int"));
        Set<String> shown = new TreeSet<>();
        Set<String> publicNames = new TreeSet<>();
        for (Method method : face.getDeclaredMethods()) {
            if (!Modifier.isPrivate(method.getModifiers())) {
                shown.add(method.getReturnType().getSimpleName() + " " + method.getName() + "("
                    + names(method.getParameterTypes()) + ") " + names(method.getExceptionTypes()));
                publicNames.add(method.getName());
                Checks.holds(method.getName() + " is public", method.getModifiers() == Modifier.PUBLIC);
            }
        }
        Set<String> want = new TreeSet<>(Arrays.asList(FACE));
        Checks.holds("the methods " + want + " and no others, shown are " + shown, shown.equals(want));
        for (Method method : face.getDeclaredMethods()) {
            Checks.holds(method.getName() + " bears no public one's name",
                !Modifier.isPrivate(method.getModifiers()) || !publicNames.contains(method.getName()));
        }
        Arrays.stream(face.getDeclaredFields()).forEach(field -> Checks.holds(field.getName() + " is private",
            Modifier.isPrivate(field.getModifiers())));
        Checks.end();
    }
}
