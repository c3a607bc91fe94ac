import java.util.regex.Matcher;
import java.util.regex.Pattern;

/** The four examples of the document, as it writes them. */
public final class ExamplesTest {
    private static final String[] EXAMPLES = {
        "addToRow(250) = 1; addToRow(262) = 2; addToRow(255) = 3; addToRow(248) = 4;"
            + " addMould(1, 120, 150) = 0; clearRow() = 4; addToRow(254) = 1; addToRow(261) = 2;"
            + " addToRow(250) = 3; addSheet(1, 140, 150) = 0; score(0, 0) = 3;"
            + " placement(0, 0, 0) = 1; placement(0, 0, 1) = 0; placement(0, 0, 2) = 1000;"
            + " assignedMould(0) = 0; rivalCount(0, 10) = 0.",
        "addToRow(300) = 1; addToRow(310) = 2; addToRow(305) = 3; addMould(0, 100, 100) = 0;"
            + " addMould(0, 140, 100) = 1; areTwins(0, 1) = 1; twinDifference(0, 1) = 40;"
            + " areTwins(0, 0) = -3; addState(0, 110, 104) = 1; addSheet(0, 104, 100) = 0;"
            + " addSheet(-1, 0, 0) = 1; score(1, 0) = 0; placement(1, 0, 3) = -6;"
            + " placement(0, 0, 3) = 0; rivalCount(1, 0) = 1; rivalCount(0, 50) = 0.",
        "addToRow(200) = 1; addToRow(210) = 2; addToRow(220) = 3; addMould(0, 50, 50) = 0;"
            + " addState(0, 80, 50) = 1; addSheet(0, 80, 50) = 0; addSheet(0, 50, 50) = 1;"
            + " setDates(0, 1500, 1510) = 1; setDates(1, 1520, 1530) = 1;"
            + " contradictionCount(0) = 1; earliest(0) = 1520; latest(1) = 1510;"
            + " sheetAt(0, 0) = 1; sheetAt(0, 1) = 0; sheetAt(0, 2) = -6; sheetsOf(0) = 3.",
        "addMould(0, 0, 0) = -4; addToRow(99) = -3; addToRow(100) = 1; addToRow(450) = 2;"
            + " addSheet(2, 0, 0) = -3; addSheet(1, 451, 0) = -3; addSheet(1, 450, 300) = 0;"
            + " assignedMould(0) = -6; score(0, 0) = -1; earliest(0) = 0;"
            + " setTolerances(51, 0) = -3; count(2) = 2.",
    };
    private static final int[] CALLS = {16, 16, 16, 12};

    public static void main(String[] args) throws ReflectiveOperationException {
        Checks checks = new Checks();
        Pattern call = Pattern.compile("(\\w+)\\(([^)]*)\\) = (-?\\d+)");
        for (int k = 0; k < EXAMPLES.length; k++) {
            MouldMatcher x = new MouldMatcher();
            Matcher found = call.matcher(EXAMPLES[k]);
            int calls = 0;
            while (found.find()) {
                int got = answer(x, found.group(1), found.group(2));
                checks.due("example " + (k + 1) + ": " + found.group(), got,
                        Integer.parseInt(found.group(3)));
                calls++;
            }
            checks.due("calls of example " + (k + 1), calls, CALLS[k]);
        }
        checks.end();
    }

    private static int answer(MouldMatcher x, String name, String arguments)
            throws ReflectiveOperationException {
        String[] words = arguments.isEmpty() ? new String[0] : arguments.split(", ");
        Class<?>[] types = new Class<?>[words.length];
        Object[] values = new Object[words.length];
        for (int k = 0; k < words.length; k++) {
            types[k] = int.class;
            values[k] = Integer.valueOf(words[k]);
        }
        return (Integer) MouldMatcher.class.getMethod(name, types).invoke(x, values);
    }
}
