import java.lang.reflect.Constructor;
import java.lang.reflect.Field;
import java.lang.reflect.Method;
import java.lang.reflect.Modifier;
import java.util.ArrayList;
import java.util.HashSet;
import java.util.List;
import java.util.Set;
import java.util.TreeSet;

/** The document's public face, and rule 1 of LANGUAGE.md: nothing else of the class is seen from outside. */
public final class FaceTest {
    private static final String[] FACE = {
        "int addName(int) IllegalArgumentException IllegalStateException",
        "int place(int, int) NoSuchElementException IllegalArgumentException IllegalStateException",
        "int link(int) IllegalArgumentException UnsupportedOperationException",
        "int take(int) NoSuchElementException IllegalStateException",
        "int addressOf(int, int) NoSuchElementException IllegalStateException IllegalArgumentException",
        "int nameAt(int) IllegalArgumentException NoSuchElementException",
        "boolean meet(int, int) NoSuchElementException IllegalArgumentException",
        "int read(int, int, int) IndexOutOfBoundsException NoSuchElementException IllegalStateException"
            + " IllegalArgumentException",
        "int write(int, int, int) IndexOutOfBoundsException NoSuchElementException IllegalStateException"
            + " IllegalArgumentException",
        "int empty(int) IndexOutOfBoundsException",
        "boolean setAhead(int, boolean) IndexOutOfBoundsException",
        "int accesses()",
        "int costOf(int) NoSuchElementException",
        "int costByReplay(int) NoSuchElementException",
        "char causeOf(int) NoSuchElementException",
        "char state(int, int) IndexOutOfBoundsException IllegalArgumentException",
        "int owner(int) IllegalArgumentException NoSuchElementException",
        "int holders(int) IllegalArgumentException",
        "int lines(int) IndexOutOfBoundsException",
        "int oldest(int, int) IndexOutOfBoundsException IllegalArgumentException NoSuchElementException",
        "int count(int, char) NoSuchElementException IllegalArgumentException",
        "long bill(int) NoSuchElementException",
        "int worst() NoSuchElementException",
        "long cycles(int) IndexOutOfBoundsException",
        "int fetched(int) IndexOutOfBoundsException",
        "int useful(int) IndexOutOfBoundsException",
        "int wrong(int) IndexOutOfBoundsException",
        "float missShare() ArithmeticException",
        "double meanCost() ArithmeticException",
        "boolean isCoherent()",
    };

    private static final Check check = new Check();

    public static void main(String[] args) {
        Class<?> face = LineKeeper.class;
        check.due(Modifier.PUBLIC | Modifier.FINAL, face::getModifiers);
        check.due(new TreeSet<>(List.of(FACE)), () -> publicMethods(face));
        check.due("[public LineKeeper()]", () -> List.of(face.getDeclaredConstructors()));
        check.due("[]", () -> seenFields(face));
        check.due("[]", () -> methodsNeitherPublicNorPrivate(face));
        check.due("[]", () -> privateMethodsWithPublicNames(face));
        check.due("[]", () -> seenOrInnerClasses(face));
        check.end();
    }

    private static Set<String> publicMethods(Class<?> face) {
        Set<String> found = new TreeSet<>();
        for (Method method : face.getDeclaredMethods()) {
            if (Modifier.isPublic(method.getModifiers()) && !Modifier.isStatic(method.getModifiers())) {
                found.add(textOf(method));
            } else if (Modifier.isPublic(method.getModifiers())) {
                found.add("static " + textOf(method));
            }
        }
        return found;
    }

    private static String textOf(Method method) {
        List<String> parameters = new ArrayList<>();
        for (Class<?> type : method.getParameterTypes()) {
            parameters.add(type.getSimpleName());
        }
        StringBuilder text = new StringBuilder();
        text.append(method.getReturnType().getSimpleName()).append(' ').append(method.getName());
        text.append('(').append(String.join(", ", parameters)).append(')');
        for (Class<?> thrown : method.getExceptionTypes()) {
            text.append(' ').append(thrown.getSimpleName());
        }
        return text.toString();
    }

    private static List<String> seenFields(Class<?> face) {
        List<String> found = new ArrayList<>();
        for (Field field : face.getDeclaredFields()) {
            if (!Modifier.isPrivate(field.getModifiers())) {
                found.add(field.getName());
            }
        }
        return found;
    }

    private static List<String> methodsNeitherPublicNorPrivate(Class<?> face) {
        List<String> found = new ArrayList<>();
        for (Method method : face.getDeclaredMethods()) {
            if ((method.getModifiers() & (Modifier.PUBLIC | Modifier.PRIVATE)) == 0) {
                found.add(method.getName());
            }
        }
        return found;
    }

    private static List<String> privateMethodsWithPublicNames(Class<?> face) {
        Set<String> names = new HashSet<>();
        for (Method method : face.getMethods()) {
            names.add(method.getName());
        }
        List<String> found = new ArrayList<>();
        List<Class<?>> classes = new ArrayList<>(List.of(face.getDeclaredClasses()));
        classes.add(face);
        for (Class<?> owner : classes) {
            for (Method method : owner.getDeclaredMethods()) {
                if (!Modifier.isPublic(method.getModifiers()) && names.contains(method.getName())) {
                    found.add(owner.getSimpleName() + "." + method.getName());
                }
            }
        }
        return found;
    }

    private static List<String> seenOrInnerClasses(Class<?> face) {
        List<String> found = new ArrayList<>();
        for (Class<?> nested : face.getDeclaredClasses()) {
            int modifiers = nested.getModifiers();
            boolean isSeen = (modifiers & (Modifier.PUBLIC | Modifier.PROTECTED)) != 0;
            if (isSeen || !Modifier.isStatic(modifiers)) {
                found.add(nested.getSimpleName());
            }
            for (Constructor<?> made : nested.getDeclaredConstructors()) {
                if (Modifier.isPublic(made.getModifiers())) {
                    found.add(made.toString());
                }
            }
        }
        return found;
    }
}
