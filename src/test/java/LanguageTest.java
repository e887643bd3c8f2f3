import java.io.IOException;
import java.io.UncheckedIOException;
import java.lang.reflect.Executable;
import java.lang.reflect.Field;
import java.lang.reflect.Modifier;
import java.nio.file.Files;
import java.nio.file.Path;
import java.util.ArrayList;
import java.util.Arrays;
import java.util.List;
import java.util.Set;
import java.util.regex.Matcher;
import java.util.regex.Pattern;

/** What can be seen of the rules of LANGUAGE.md in the class and in its text; rule 1 is in FaceTest. */
public final class LanguageTest {
    private static final Check CHECK = new Check("LanguageTest");
    private static final Path PROGRAM = Path.of("src/main/java/GuardedDrops.java");
    private static final String TEXT = withoutComments();

    private static final Set<String> LIBRARY = Set.of("Math.max", "Arrays.fill", "System.arraycopy");
    private static final Set<Class<?>> CONSTANTS = Set.of(int.class, long.class, boolean.class, char.class, String.class);

    public static void main(String[] args) {
        CHECK.sentence("without a package line, one public class", LanguageTest::oneClass);
        CHECK.sentence("rule 2: no lambda, no method reference", () -> none("->|::"));
        CHECK.sentence("rule 3: types", () -> none("\\b(double|float|Object|Map|Set|BigInteger|var)\\b"));
        CHECK.sentence("rule 4: only what stands here", LanguageTest::library);
        CHECK.sentence("rule 5: static fields are final", LanguageTest::staticFields);
        CHECK.sentence("rule 6: throw new E(\"a written text\")", LanguageTest::exceptions);
        CHECK.sentence("rule 6: no synchronized, assert, finally", () -> none("\\b(synchronized|assert|finally|try|catch)\\b"));
        CHECK.sentence("rule 11: at most seven parameters, some twenty fields", LanguageTest::parametersAndFields);
        CHECK.sentence("rule 11: methods stay short", LanguageTest::lengths);
        CHECK.sentence("rule 12: objects", LanguageTest::objectsInConstructorsOnly);
        CHECK.sentence("rule 13: no clock, no randomness", () -> none("\\b(Random|random|nanoTime|currentTimeMillis|Thread|hashCode)\\b"));
        CHECK.end();
    }

    private static String withoutComments() {
        try {
            return Files.readString(PROGRAM).replaceAll("(?s)/\\*.*?\\*/", "").replaceAll("//[^\n]*", "");
        } catch (IOException e) {
            throw new UncheckedIOException(e);
        }
    }

    private static List<String> found(String pattern) {
        List<String> all = new ArrayList<>();
        Matcher matcher = Pattern.compile(pattern).matcher(TEXT);
        while (matcher.find()) {
            all.add(matcher.group());
        }
        return all;
    }

    private static void none(String pattern) {
        CHECK.due(pattern, found(pattern).toString(), "[]");
    }

    private static void oneClass() {
        none("(?m)^package\\b");
        CHECK.due("public classes", found("public (final )?class \\w+").toString(), "[public final class GuardedDrops]");
    }

    private static void library() {
        CHECK.due("imports", found("import [^;]+").toString(), "[import java.util.Arrays, import java.util.NoSuchElementException]");
        for (String call : found("\\b(Math|Arrays|System|Integer|Long)\\.\\w+")) {
            CHECK.due(call + " is among the library", LIBRARY.contains(call), true);
        }
    }

    private static void exceptions() {
        String kinds = "(IllegalState|IllegalArgument|IndexOutOfBounds|NoSuchElement)Exception";
        CHECK.due("each throw is of that form", found("throw new " + kinds + "\\(\"[^\"]*\"\\);").size(), found("\\bthrow\\b").size());
        none("(?s)public GuardedDrops\\(\\) \\{[^}]*throw");
    }

    private static List<Class<?>> classes() {
        List<Class<?>> all = new ArrayList<>(Arrays.asList(GuardedDrops.class.getDeclaredClasses()));
        all.add(GuardedDrops.class);
        return all;
    }

    private static void staticFields() {
        for (Class<?> one : classes()) {
            for (Field field : one.getDeclaredFields()) {
                if (Modifier.isStatic(field.getModifiers())) {
                    CHECK.due(field + " is final", Modifier.isFinal(field.getModifiers()), true);
                    CHECK.due(field + " is a constant", CONSTANTS.contains(field.getType()), true);
                }
            }
        }
        none("static \\{");
    }

    private static void parametersAndFields() {
        for (Class<?> one : classes()) {
            List<Executable> all = new ArrayList<>(Arrays.asList(one.getDeclaredMethods()));
            all.addAll(Arrays.asList(one.getDeclaredConstructors()));
            for (Executable executable : all) {
                CHECK.due(executable + " has at most seven", executable.getParameterCount() <= 7, true);
            }
            long fields = Arrays.stream(one.getDeclaredFields()).filter(f -> !Modifier.isStatic(f.getModifiers())).count();
            CHECK.due(one + " has some twenty fields", fields <= 20, true);
        }
    }

    /** A method goes from a line with its opening bracket to the closing one that stands as far to the right. */
    private static void lengths() {
        for (String method : found("(?ms)^( {4}| {8})(?! )[^\n]*\\([^;]*?\\{$.*?^\\1\\}$")) {
            String[] lines = method.split("\n");
            CHECK.due(lines[0].trim() + " is short", lines.length <= 60, true);
        }
    }

    /** All rows are made when the object is; what a call makes is at most the exception that it throws. */
    private static void objectsInConstructorsOnly() {
        for (String line : found("(?m)^.*\\bnew\\b.*$")) {
            boolean field = line.contains("private final");
            boolean thrown = line.contains("throw new");
            boolean pool = line.trim().equals("list[i] = new Droplet();");
            CHECK.due(line.trim() + ": in a constructor, or thrown", field || thrown || pool, true);
        }
    }
}
