import java.io.IOException;
import java.lang.reflect.Modifier;
import java.nio.file.Files;
import java.nio.file.Path;
import java.util.Arrays;
import java.util.LinkedHashMap;
import java.util.Map;
import java.util.regex.Matcher;
import java.util.regex.Pattern;

/** Rule 11 of LANGUAGE.md: sizes of methods and classes, and how deep calls go. */
public final class RulesTest {
    private static final int DEEPEST = 8;
    private static final int LONGEST = 60;
    private static final int CLASSES = 12;
    private static final int FIELDS = 20;
    private static final Pattern HEAD = Pattern.compile(
            "(?m)^ +(?:public |private |static |final )*(?:[\\w\\[\\]]+ )?(\\w+)\\([^()]*\\) \\{$");
    private static final Pattern CALL = Pattern.compile("\\b(\\w+)\\(");
    private static final Pattern NO_METHOD = Pattern.compile("if|for|while|switch|else|return");
    private static final Checks CHECKS = new Checks();

    private final Map<String, String> bodies = new LinkedHashMap<>();

    /** The test is run from the project's root, as .ci/run does. */
    public static void main(String[] args) throws IOException {
        String source = Files.readString(Path.of("src/main/java/MouldMatcher.java"));
        String code = source.replaceAll("(?s)/\\*.*?\\*/", " ").replaceAll("//[^\n]*", " ");
        new RulesTest().methods(code);
        classes();
        CHECKS.end();
    }

    private void methods(String code) {
        Matcher head = HEAD.matcher(code);
        while (head.find()) {
            if (!NO_METHOD.matcher(head.group(1)).matches()) {
                String body = body(code, head.end());
                CHECKS.holds(head.group(1) + " is short", body.split("\n").length <= LONGEST);
                CHECKS.holds(head.group(1) + " is a name used once",
                        bodies.putIfAbsent(head.group(1), body) == null);
            }
        }
        for (var method : MouldMatcher.class.getDeclaredMethods()) {
            CHECKS.holds(method + " was found", bodies.containsKey(method.getName()));
        }
        for (String name : bodies.keySet()) {
            CHECKS.holds("calls from " + name + " go at most eight deep", depth(name, 0) <= DEEPEST);
        }
    }

    /** From behind the opening brace to the one that closes it. */
    private static String body(String code, int from) {
        int open = 1;
        int end = from;
        while (open > 0 && end < code.length()) {
            char sign = code.charAt(end);
            open += sign == '{' ? 1 : sign == '}' ? -1 : 0;
            end++;
        }
        return code.substring(from, end);
    }

    /** A call of the library counts as one; a method that calls itself would never end here. */
    private int depth(String name, int above) {
        String body = bodies.get(name);
        if (body == null || above > DEEPEST) {
            return 1;
        }
        int deepest = 0;
        Matcher call = CALL.matcher(body);
        while (call.find()) {
            if (!NO_METHOD.matcher(call.group(1)).matches()) {
                deepest = Math.max(deepest, depth(call.group(1), above + 1));
            }
        }
        return 1 + deepest;
    }

    private static void classes() {
        Class<?>[] inside = MouldMatcher.class.getDeclaredClasses();
        CHECKS.holds("at most twelve classes", inside.length + 1 <= CLASSES);
        fields(MouldMatcher.class);
        for (Class<?> one : inside) {
            fields(one);
        }
    }

    private static void fields(Class<?> one) {
        long fields = Arrays.stream(one.getDeclaredFields())
                .filter(field -> !Modifier.isStatic(field.getModifiers())).count();
        CHECKS.holds(one + " has at most twenty fields", fields <= FIELDS);
    }
}
