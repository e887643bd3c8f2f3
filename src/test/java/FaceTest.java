import java.lang.reflect.Constructor;
import java.lang.reflect.Field;
import java.lang.reflect.Method;
import java.lang.reflect.Modifier;
import java.util.Arrays;
import java.util.Set;
import java.util.TreeSet;

/** The public face of the document, and rule 1 of LANGUAGE.md. */
public final class FaceTest {
    private static final Check CHECK = new Check("FaceTest");

    private static final String[] FACE = {
        "boolean cell(int,int,int) throws",
        "int dispense(int) throws IllegalArgumentException NoSuchElementException IllegalStateException",
        "int send(int,int,int) throws IllegalArgumentException IllegalStateException NoSuchElementException",
        "int join(int,int) throws IllegalArgumentException IllegalStateException NoSuchElementException",
        "int halve(int,boolean) throws IllegalArgumentException IllegalStateException",
        "int discard(int) throws IllegalArgumentException IllegalStateException",
        "int run(int) throws IllegalArgumentException",
        "int time() throws",
        "int droplets() throws",
        "int look(int,int) throws IllegalArgumentException",
        "int ahead(int,int) throws",
        "long share(int,int) throws IllegalArgumentException",
        "int reading(int,int) throws IndexOutOfBoundsException",
        "int units(int) throws",
        "int kind(int,int) throws",
    };

    public static void main(String[] args) {
        Class<GuardedDrops> face = GuardedDrops.class;
        CHECK.sentence("public final class GuardedDrops", () -> theClass(face));
        CHECK.sentence("public static final int NONE = -1;", () -> fields(face));
        CHECK.sentence("public GuardedDrops();", () -> constructors(face));
        CHECK.sentence("## The public face", () -> methods(face));
        CHECK.sentence("## The public face", () -> classesInside(face));
        CHECK.end();
    }

    private static void theClass(Class<?> face) {
        CHECK.due("public and final", face.getModifiers(), Modifier.PUBLIC | Modifier.FINAL);
        CHECK.due("without a package", face.getName(), "GuardedDrops");
    }

    private static void constructors(Class<?> face) {
        for (Constructor<?> constructor : face.getDeclaredConstructors()) {
            CHECK.due("the constructor", constructor.toString(), "public GuardedDrops()");
        }
    }

    private static void classesInside(Class<?> face) {
        CHECK.due("at most some twelve", face.getDeclaredClasses().length <= 12, true);
        for (Class<?> inside : face.getDeclaredClasses()) {
            CHECK.due(inside + " is static", Modifier.isStatic(inside.getModifiers()), true);
            CHECK.due(inside + " is not public", Modifier.isPublic(inside.getModifiers()), false);
        }
    }

    private static void methods(Class<?> face) {
        Set<String> seen = new TreeSet<>();
        Set<String> names = new TreeSet<>();
        for (Method method : face.getDeclaredMethods()) {
            if (Modifier.isPublic(method.getModifiers())) {
                seen.add(told(method));
                names.add(method.getName());
            }
        }
        CHECK.due("the methods", seen.toString(), new TreeSet<>(Arrays.asList(FACE)).toString());
        for (Method method : face.getDeclaredMethods()) {
            if (!Modifier.isPublic(method.getModifiers())) {
                CHECK.due(method + " is private", Modifier.isPrivate(method.getModifiers()), true);
                CHECK.due(method + " has a name of its own", names.contains(method.getName()), false);
            }
        }
    }

    private static String told(Method method) {
        StringBuilder text = new StringBuilder(method.getReturnType().getSimpleName()).append(' ').append(method.getName());
        StringBuilder types = new StringBuilder();
        for (Class<?> type : method.getParameterTypes()) {
            types.append(types.length() == 0 ? "" : ",").append(type.getSimpleName());
        }
        text.append('(').append(types).append(") throws");
        for (Class<?> type : method.getExceptionTypes()) {
            text.append(' ').append(type.getSimpleName());
        }
        return text.toString();
    }

    private static void fields(Class<?> face) {
        for (Field field : face.getDeclaredFields()) {
            int modifiers = field.getModifiers();
            boolean none = field.getName().equals("NONE");
            CHECK.due(field + " is public", Modifier.isPublic(modifiers), none);
            CHECK.due(field + " is private", Modifier.isPrivate(modifiers), !none);
            CHECK.due(field + " is final if static", !Modifier.isStatic(modifiers) || Modifier.isFinal(modifiers), true);
        }
        CHECK.due("NONE", GuardedDrops.NONE, -1);
    }
}
