import java.io.IOException;
import java.lang.reflect.Constructor;
import java.lang.reflect.Field;
import java.lang.reflect.Method;
import java.lang.reflect.Modifier;
import java.nio.file.Files;
import java.nio.file.Path;
import java.util.Map;
import java.util.Set;
import java.util.TreeSet;
import java.util.regex.Matcher;
import java.util.regex.Pattern;

/** The public face of the document, and the rules of LANGUAGE.md that a program can look at. */
public final class FaceTest {
    private static final Map<String, Integer> CONSTANTS = Map.of("NO_SUCH_MOULD", -1,
            "NO_SUCH_SHEET", -2, "BAD_VALUE", -3, "BAD_ROW", -4, "FULL", -5, "NONE", -6);
    private static final Set<String> METHODS = Set.of("clearRow/0", "addToRow/1",
            "setTolerances/2", "addMould/3", "addState/3", "removeState/1", "stateCount/1",
            "areTwins/2", "twinDifference/2", "addSheet/3", "setDates/3", "count/1", "score/2",
            "placement/3", "assignedMould/1", "rivalCount/2", "sheetsOf/1", "sheetAt/2",
            "earliest/1", "latest/1", "contradictionCount/1");

    private static final Checks CHECKS = new Checks();

    public static void main(String[] args) throws ReflectiveOperationException, IOException {
        Class<?> face = MouldMatcher.class;
        CHECKS.holds("the class is public and final", Modifier.isPublic(face.getModifiers())
                && Modifier.isFinal(face.getModifiers()));
        fields(face);
        methods(face);
        Constructor<?>[] constructors = face.getDeclaredConstructors();
        CHECKS.holds("one public constructor without arguments", constructors.length == 1
                && Modifier.isPublic(constructors[0].getModifiers())
                && constructors[0].getParameterCount() == 0);
        for (Class<?> inside : face.getDeclaredClasses()) {
            insideClass(inside);
        }
        words();
        CHECKS.end();
    }

    private static void fields(Class<?> face) throws ReflectiveOperationException {
        Set<String> seen = new TreeSet<>();
        for (Field field : face.getDeclaredFields()) {
            int modifiers = field.getModifiers();
            if (Modifier.isStatic(modifiers)) {
                CHECKS.holds(field + " is final", Modifier.isFinal(modifiers));
            }
            if (!Modifier.isPrivate(modifiers)) {
                seen.add(field.getName());
                CHECKS.holds(field + " is a public constant of int", Modifier.isPublic(modifiers)
                        && Modifier.isStatic(modifiers) && field.getType() == int.class);
                Integer value = CONSTANTS.get(field.getName());
                CHECKS.holds(field + " has the document's value",
                        value != null && field.getInt(null) == value);
            }
        }
        CHECKS.holds("the constants are the document's", seen.equals(CONSTANTS.keySet()));
    }

    private static void methods(Class<?> face) {
        Set<String> open = new TreeSet<>();
        Set<String> names = new TreeSet<>();
        for (String method : METHODS) {
            names.add(method.substring(0, method.indexOf('/')));
        }
        for (Method method : face.getDeclaredMethods()) {
            int modifiers = method.getModifiers();
            CHECKS.holds(method + " takes at most seven", method.getParameterCount() <= 7);
            if (Modifier.isPrivate(modifiers)) {
                CHECKS.holds(method + " has a name of its own", !names.contains(method.getName()));
            } else {
                open.add(method.getName() + "/" + method.getParameterCount());
                CHECKS.holds(method + " is public, of the object, and answers int",
                        Modifier.isPublic(modifiers) && !Modifier.isStatic(modifiers)
                                && method.getReturnType() == int.class);
            }
        }
        CHECKS.holds("the methods are the document's", open.equals(METHODS));
    }

    private static void insideClass(Class<?> inside) {
        int modifiers = inside.getModifiers();
        CHECKS.holds(inside + " is static and not open", Modifier.isStatic(modifiers)
                && !Modifier.isPublic(modifiers) && !Modifier.isProtected(modifiers));
        for (Method method : inside.getDeclaredMethods()) {
            CHECKS.holds(method + " has a name of its own",
                    METHODS.stream().noneMatch(m -> m.startsWith(method.getName() + "/")));
        }
    }

    /** The test is run from the project's root, as .ci/run does. */
    private static void words() throws IOException {
        String source = Files.readString(Path.of("src/main/java/MouldMatcher.java"));
        String code = source.replaceAll("(?s)/\\*.*?\\*/", " ").replaceAll("//[^\n]*", " ");
        Pattern ruledOut = Pattern.compile("\\b(throw|throws|try|catch|synchronized|assert|package"
                + "|protected|\\w+Exact|System|Random|Thread)\\b|->|::|static\\s*\\{");
        Matcher found = ruledOut.matcher(code);
        while (found.find()) {
            CHECKS.holds("no '" + found.group() + "' in the program", false);
        }
        Matcher imports = Pattern.compile("import ([\\w.*]+);").matcher(code);
        while (imports.find()) {
            CHECKS.holds("import of " + imports.group(1),
                    Set.of("java.util.Arrays", "java.util.ArrayList", "java.util.List")
                            .contains(imports.group(1)));
        }
        CHECKS.holds("signs 1 to 127", source.chars().allMatch(c -> c >= 1 && c <= 127));
    }
}
