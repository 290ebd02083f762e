import java.lang.reflect.Constructor;
import java.lang.reflect.Field;
import java.lang.reflect.Method;
import java.lang.reflect.Modifier;
import java.util.ArrayList;
import java.util.List;
import java.util.TreeSet;

/** The class has the face of the document, and nothing else that can be reached from outside. */
public final class FaceTest {
    private static final List<String> FACE = List.of(
        "int put(int, int) throws IndexOutOfBoundsException, IllegalArgumentException, IllegalStateException",
        "int putAll(int, int, int, int, int) throws IndexOutOfBoundsException, IllegalArgumentException, IllegalStateException",
        "int take(int, int) throws IndexOutOfBoundsException, IllegalArgumentException",
        "int clear(int) throws IndexOutOfBoundsException",
        "int pair(int, int) throws IllegalArgumentException, IllegalStateException",
        "int pour(int, int) throws IndexOutOfBoundsException, IllegalStateException",
        "int change(int, int, int) throws IndexOutOfBoundsException, IllegalArgumentException",
        "int insert(int, int, int) throws IndexOutOfBoundsException, IllegalArgumentException, IllegalStateException",
        "int remove(int, int) throws IndexOutOfBoundsException",
        "int turn(int) throws IndexOutOfBoundsException",
        "int rotate(int, int) throws IndexOutOfBoundsException, IllegalArgumentException",
        "int swap(int, int, int) throws IndexOutOfBoundsException",
        "int fill(int, int) throws IndexOutOfBoundsException, IllegalArgumentException",
        "int replace(int, int, int) throws IndexOutOfBoundsException, IllegalArgumentException",
        "int copies(int, int, int) throws IndexOutOfBoundsException, IllegalArgumentException, IllegalStateException",
        "int walk(int, int, int) throws IndexOutOfBoundsException, IllegalArgumentException",
        "int next(int) throws IndexOutOfBoundsException, IllegalStateException",
        "int more(int) throws IndexOutOfBoundsException, IllegalStateException",
        "int takeOut(int) throws IndexOutOfBoundsException, IllegalStateException",
        "String rest(int) throws IndexOutOfBoundsException, IllegalStateException",
        "int keepRest(int, int) throws IndexOutOfBoundsException, IllegalStateException",
        "int keep(int, int) throws IndexOutOfBoundsException",
        "int drop(int) throws IndexOutOfBoundsException",
        "int skip(int, int) throws IndexOutOfBoundsException, IllegalArgumentException, IllegalStateException",
        "int pourRest(int, int) throws IndexOutOfBoundsException, IllegalStateException",
        "String zip(int, int) throws IndexOutOfBoundsException, IllegalArgumentException, IllegalStateException",
        "String text(int) throws IndexOutOfBoundsException",
        "String list(int) throws IndexOutOfBoundsException",
        "int size(int) throws IndexOutOfBoundsException",
        "boolean isEmpty(int) throws IndexOutOfBoundsException",
        "int has(int, int) throws IndexOutOfBoundsException, IllegalArgumentException",
        "int often(int, int) throws IndexOutOfBoundsException, IllegalArgumentException",
        "int placeOf(int, int, boolean) throws IndexOutOfBoundsException, IllegalArgumentException",
        "int disjoint(int, int) throws IndexOutOfBoundsException",
        "int end(int, boolean) throws IndexOutOfBoundsException",
        "int code(int) throws IndexOutOfBoundsException",
        "boolean areAlike(int, int) throws IndexOutOfBoundsException",
        "int first(int, boolean) throws IndexOutOfBoundsException",
        "int valueOf(int) throws IllegalArgumentException",
        "int ofWalk(int, int) throws IndexOutOfBoundsException, IllegalArgumentException",
        "int house(int) throws IllegalArgumentException",
        "int knock()",
        "boolean isSound()",
        "long digest()");

    public static void main(String[] args) {
        Class<Overwalks> type = Overwalks.class;
        Checks.due("modifiers", Modifier.toString(type.getModifiers()), "public final");
        Checks.due("superclass", type.getSuperclass(), Object.class);
        Checks.due("interfaces", type.getInterfaces().length, 0);
        Checks.due("fields", openFields(type), List.of());
        Checks.due("methods", new TreeSet<>(openMethods(type)), new TreeSet<>(FACE));
        Checks.due("constructors", openConstructors(type), List.of("public Overwalks()"));
        Checks.due("private methods with a public name", privateNamesakes(type), List.of());
        for (Class<?> inside : type.getDeclaredClasses()) {
            int modifiers = inside.getModifiers();
            Checks.due(inside + " is open", Modifier.isPublic(modifiers) || Modifier.isProtected(modifiers), false);
        }
        Checks.end();
    }

    private static List<String> openFields(Class<?> type) {
        List<String> open = new ArrayList<>();
        for (Field field : type.getDeclaredFields()) {
            if (!Modifier.isPrivate(field.getModifiers()) && !field.isSynthetic()) {
                open.add(field.getName());
            }
        }
        return open;
    }

    private static List<String> openMethods(Class<?> type) {
        List<String> open = new ArrayList<>();
        for (Method method : type.getDeclaredMethods()) {
            if (Modifier.isPrivate(method.getModifiers()) || method.isSynthetic()) {
                continue;
            }
            String thrown = names(method.getExceptionTypes());
            String face = method.getReturnType().getSimpleName() + " " + method.getName()
                    + "(" + names(method.getParameterTypes()) + ")"
                    + (thrown.isEmpty() ? "" : " throws " + thrown);
            boolean isPublic = Modifier.toString(method.getModifiers()).equals("public");
            open.add(isPublic ? face : Modifier.toString(method.getModifiers()) + " " + face);
        }
        return open;
    }

    private static List<String> openConstructors(Class<?> type) {
        List<String> open = new ArrayList<>();
        for (Constructor<?> constructor : type.getDeclaredConstructors()) {
            open.add(constructor.toString());
        }
        return open;
    }

    private static List<String> privateNamesakes(Class<?> type) {
        TreeSet<String> publicNames = new TreeSet<>();
        for (Method method : type.getMethods()) {
            publicNames.add(method.getName());
        }
        List<String> namesakes = new ArrayList<>();
        for (Method method : type.getDeclaredMethods()) {
            if (Modifier.isPrivate(method.getModifiers()) && publicNames.contains(method.getName())) {
                namesakes.add(method.getName());
            }
        }
        return namesakes;
    }

    private static String names(Class<?>[] types) {
        List<String> names = new ArrayList<>();
        for (Class<?> type : types) {
            names.add(type.getSimpleName());
        }
        return String.join(", ", names);
    }
}
