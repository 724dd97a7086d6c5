import java.lang.reflect.Constructor;
import java.lang.reflect.Field;
import java.lang.reflect.Method;
import java.lang.reflect.Modifier;
import java.util.Arrays;
import java.util.Set;
import java.util.TreeSet;
import java.util.stream.Collectors;

/** The public face, and what LANGUAGE.md's rules 1, 5 and 11 say of members. */
public final class FaceTest {
    private static final String[] DUE = {
        "boolean areFitting(int, int, int) NoSuchElementException IllegalArgumentException",
        "boolean ban(int, int) IndexOutOfBoundsException NoSuchElementException",
        "boolean isFilled()",
        "boolean isSound()",
        "boolean setRoad(boolean)",
        "char fill(int) IllegalArgumentException IllegalStateException",
        "char visit(int, int) IllegalArgumentException IllegalStateException",
        "double meanOptions()",
        "float roadShare() IllegalStateException",
        "int addTile(int, int, int, int, int) IllegalArgumentException IllegalStateException",
        "int border(int, int, boolean, int) IllegalArgumentException",
        "int chunkTile(int, int, int) IllegalArgumentException NoSuchElementException IndexOutOfBoundsException",
        "int chunks()",
        "int fix(int, int) IndexOutOfBoundsException NoSuchElementException",
        "int forget()",
        "int guesses()",
        "int options(int) IndexOutOfBoundsException",
        "int optionsAnew(int) IndexOutOfBoundsException",
        "int roads() IllegalStateException",
        "int setMost(int, int) NoSuchElementException IllegalArgumentException",
        "int setSeed(int) IllegalArgumentException",
        "int setSize(int, int) IllegalArgumentException",
        "int soften(int) IndexOutOfBoundsException",
        "int takenBack()",
        "int tileAt(int) IndexOutOfBoundsException IllegalStateException",
        "int ways() UnsupportedOperationException",
        "long worldSum() IllegalStateException",
    };

    private static String names(Class<?>[] types, String between) {
        return Arrays.stream(types).map(Class::getSimpleName).collect(Collectors.joining(between));
    }

    private static String told(Method method) {
        String thrown = names(method.getExceptionTypes(), " ");
        return method.getReturnType().getSimpleName() + " " + method.getName() + "("
                + names(method.getParameterTypes(), ", ") + ")" + (thrown.isEmpty() ? "" : " " + thrown);
    }

    private static void members(Class<?> own) {
        int fields = 0;
        for (Field field : own.getDeclaredFields()) {
            boolean isStatic = Modifier.isStatic(field.getModifiers());
            fields += isStatic ? 0 : 1;
            Check.same(field + " is private in the face", own != Tilehold.class
                    || Modifier.isPrivate(field.getModifiers()), true);
            Check.same(field + " is final if it is static", isStatic && !Modifier.isFinal(field.getModifiers()), false);
        }
        Check.same(own + " has 20 fields at most", fields <= 20, true);
        for (Method method : own.getDeclaredMethods()) {
            Check.same(method + " takes 7 parameters at most", method.getParameterCount() <= 7, true);
        }
    }

    public static void main(String[] arguments) {
        Class<Tilehold> face = Tilehold.class;
        Check.same("public and final", Modifier.isPublic(face.getModifiers())
                && Modifier.isFinal(face.getModifiers()), true);
        Constructor<?>[] constructors = face.getDeclaredConstructors();
        Check.same("one constructor", constructors.length, 1);
        Check.same("a public one", Modifier.isPublic(constructors[0].getModifiers()), true);
        Check.same("without parameters", constructors[0].getParameterCount(), 0);
        Set<String> got = new TreeSet<>();
        Set<String> publicNames = new TreeSet<>();
        Set<String> privateNames = new TreeSet<>();
        for (Method method : face.getDeclaredMethods()) {
            boolean isPublic = Modifier.isPublic(method.getModifiers());
            Check.same(method + " is public or private", isPublic || Modifier.isPrivate(method.getModifiers()), true);
            (isPublic ? publicNames : privateNames).add(method.getName());
            if (isPublic) {
                got.add(told(method));
            }
        }
        Check.same("the face", String.join("\n", got), String.join("\n", new TreeSet<>(Arrays.asList(DUE))));
        privateNames.retainAll(publicNames);
        Check.same("no private method with a public one's name", privateNames.toString(), "[]");
        members(face);
        for (Class<?> inside : face.getDeclaredClasses()) {
            members(inside);
        }
        Check.same("some twelve classes at most", face.getDeclaredClasses().length < 12, true);
        Check.end();
    }
}
