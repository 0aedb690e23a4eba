import java.lang.reflect.Constructor;
import java.lang.reflect.Field;
import java.lang.reflect.Method;
import java.lang.reflect.Modifier;
import java.util.ArrayList;
import java.util.Arrays;
import java.util.Collections;
import java.util.List;

/** The public face: just what the document names, with its exceptions in their order. */
public final class FaceTest {
    private static final String[] FACE = {
        "int addLayer() IllegalStateException",
        "int mount(int int int) IllegalArgumentException IndexOutOfBoundsException UnsupportedOperationException IllegalStateException",
        "int unmount(int) IndexOutOfBoundsException",
        "int move(int int) IndexOutOfBoundsException IllegalArgumentException",
        "boolean setCrossing(int boolean) IndexOutOfBoundsException",
        "int served(int) IllegalArgumentException NoSuchElementException",
        "int covered()",
        "int write(int int int) IllegalArgumentException NoSuchElementException UnsupportedOperationException",
        "int link(int int int) IllegalArgumentException NoSuchElementException",
        "int remove(int) IllegalArgumentException NoSuchElementException",
        "char shows(int) IllegalArgumentException",
        "int layerOf(int) IllegalArgumentException NoSuchElementException",
        "int end(int) IllegalArgumentException UnsupportedOperationException IllegalStateException",
        "int size(int) IllegalArgumentException UnsupportedOperationException IllegalStateException NoSuchElementException",
        "int sizeByWalking(int) IllegalArgumentException",
        "int ownerOf(int) IllegalArgumentException NoSuchElementException",
        "int setQuota(int int) IllegalArgumentException",
        "int used(int) IllegalArgumentException",
        "int usedByLayers(int) IllegalArgumentException",
        "int hidden()",
        "int copies()",
        "int whiteouts(int) IndexOutOfBoundsException",
        "int backUp(boolean) IllegalStateException",
        "int bytes(int) IndexOutOfBoundsException",
        "int differences(int) IndexOutOfBoundsException",
        "float shownShare() ArithmeticException",
        "double meanSize(int) IndexOutOfBoundsException ArithmeticException",
    };

    private static final Checks CHECKS = new Checks();

    public static void main(String[] args) {
        CHECKS.due("public final", "the class", () -> Modifier.toString(MountTable.class.getModifiers()));
        CHECKS.due(sorted(Arrays.asList(FACE)), "the public methods", () -> sorted(publicMethods()));
        CHECKS.due("[MountTable()]", "the constructors", () -> constructors());
        CHECKS.due("[]", "fields that are not private", () -> openFields());
        CHECKS.due("[]", "methods named as a public one", () -> namesakes());
        CHECKS.end();
    }

    private static String sorted(List<String> lines) {
        List<String> copy = new ArrayList<>(lines);
        Collections.sort(copy);
        return copy.toString();
    }

    private static List<String> publicMethods() {
        List<String> told = new ArrayList<>();
        for (Method method : MountTable.class.getDeclaredMethods()) {
            if (!Modifier.isPrivate(method.getModifiers()) && !method.isSynthetic()) {
                told.add(told(method));
            }
        }
        return told;
    }

    private static String told(Method method) {
        String kind = Modifier.toString(method.getModifiers()).equals("public") ? "" : "not just public ";
        String name = kind + method.getReturnType().getSimpleName() + " " + method.getName();
        String exceptions = names(method.getExceptionTypes());
        return name + "(" + names(method.getParameterTypes()) + ")" + (exceptions.isEmpty() ? "" : " " + exceptions);
    }

    private static String names(Class<?>[] types) {
        List<String> names = new ArrayList<>();
        for (Class<?> type : types) {
            names.add(type.getSimpleName());
        }
        return String.join(" ", names);
    }

    private static List<String> constructors() {
        List<String> told = new ArrayList<>();
        for (Constructor<?> made : MountTable.class.getDeclaredConstructors()) {
            told.add(made.getName() + "(" + names(made.getParameterTypes()) + ")");
        }
        return told;
    }

    private static List<String> openFields() {
        List<String> told = new ArrayList<>();
        for (Field field : MountTable.class.getDeclaredFields()) {
            if (!Modifier.isPrivate(field.getModifiers()) && !field.isSynthetic()) {
                told.add(field.getName());
            }
        }
        return told;
    }

    private static List<String> namesakes() {
        List<String> told = new ArrayList<>();
        for (Method method : MountTable.class.getDeclaredMethods()) {
            for (String line : FACE) {
                if (Modifier.isPrivate(method.getModifiers()) && line.contains(" " + method.getName() + "(")) {
                    told.add(method.getName());
                }
            }
        }
        return told;
    }
}
