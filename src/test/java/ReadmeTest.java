import java.io.IOException;
import java.lang.reflect.Field;
import java.lang.reflect.Method;
import java.lang.reflect.Modifier;
import java.nio.file.Files;
import java.nio.file.Path;
import java.util.HashMap;
import java.util.Map;
import java.util.regex.Matcher;
import java.util.regex.Pattern;
import java.util.stream.Stream;

/** README.md: its code answers as its comments say, and it leaves out no call, constant or test. */
public final class ReadmeTest {
    private static final Pattern BLOCK = Pattern.compile("(?s)```java\n(.*?)```");
    private static final Pattern STATEMENT =
            Pattern.compile("\\s*(?:int (\\w+) = )?x\\.(\\w+)\\(([^()]*)\\)\\s*");
    private static final Pattern ANSWER = Pattern.compile("\\s*(-?\\d+)\\b.*");
    private static final String BEGINNING = "MouldMatcher x = new MouldMatcher();";
    private static final Checks CHECKS = new Checks();

    private final MouldMatcher x = new MouldMatcher();
    private final Map<String, Integer> names = new HashMap<>();

    /** The test is run from the project's root, as .ci/run does. */
    public static void main(String[] args) throws IOException, ReflectiveOperationException {
        String page = Files.readString(Path.of("README.md"));
        Matcher block = BLOCK.matcher(page);
        int blocks = 0;
        while (block.find()) {
            new ReadmeTest().play(block.group(1));
            blocks++;
        }
        CHECKS.holds("README.md has code", blocks > 0);
        namesTheFace(page);
        namesTheTests(page);
        CHECKS.end();
    }

    private void play(String code) {
        String[] lines = code.split("\n");
        CHECKS.holds("begins with a new object", lines[0].equals(BEGINNING));
        for (int k = 1; k < lines.length; k++) {
            playLine(lines[k]);
        }
    }

    /** A comment tells the answer of the last call of its line, if it begins with a number. */
    private void playLine(String line) {
        int comment = line.indexOf("//");
        String calls = comment < 0 ? line : line.substring(0, comment);
        int answer = 0;
        for (String call : calls.trim().split(";")) {
            answer = playCall(call);
        }
        if (comment >= 0) {
            Matcher told = ANSWER.matcher(line.substring(comment + 2));
            boolean isTold = told.matches();
            CHECKS.holds("an answer is told: " + line, isTold);
            if (isTold) {
                CHECKS.due(line, answer, Integer.parseInt(told.group(1)));
            }
        }
    }

    private int playCall(String call) {
        Matcher parts = STATEMENT.matcher(call);
        if (!parts.matches()) {
            CHECKS.holds("a call that can be made: " + call, false);
            return 0;
        }
        int[] values = new int[3];
        String[] words = parts.group(3).isEmpty() ? new String[0] : parts.group(3).split(", ");
        for (int k = 0; k < words.length; k++) {
            Integer named = names.get(words[k]);
            values[k] = named == null ? Integer.parseInt(words[k]) : named;
        }
        int answer = Calls.answer(x, parts.group(2), values[0], values[1], values[2]);
        if (parts.group(1) != null) {
            names.put(parts.group(1), answer);
        }
        return answer;
    }

    private static void namesTheFace(String page) throws ReflectiveOperationException {
        for (Method method : MouldMatcher.class.getDeclaredMethods()) {
            if (Modifier.isPublic(method.getModifiers())) {
                CHECKS.holds("README.md names " + method.getName(),
                        page.contains("`" + method.getName() + "`"));
            }
        }
        for (Field field : MouldMatcher.class.getFields()) {
            CHECKS.holds("README.md names " + field.getName(),
                    page.contains("`" + field.getName() + "` (" + field.getInt(null) + ")"));
        }
    }

    private static void namesTheTests(String page) throws IOException {
        try (Stream<Path> files = Files.list(Path.of("src/test/java"))) {
            files.map(file -> file.getFileName().toString())
                    .filter(name -> name.endsWith("Test.java"))
                    .map(name -> name.substring(0, name.length() - ".java".length()))
                    .forEach(name -> CHECKS.holds("README.md names " + name,
                            page.contains("- `" + name + "`: ")));
        }
    }
}
