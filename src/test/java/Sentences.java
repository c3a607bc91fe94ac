import java.io.IOException;
import java.nio.file.Files;
import java.nio.file.Path;
import java.util.ArrayList;
import java.util.LinkedHashMap;
import java.util.List;
import java.util.Map;

/** Checks that stand under the sentence of the document that they test. */
final class Sentences {
    /** The number under which sentences before the first promise are quoted. */
    static final int DESCRIPTION = 0;
    private static final int PROMISES = 22;
    private static final Path DOCUMENT = Path.of("../shared/DOC.md");

    private final Checks checks = new Checks();
    private final Map<String, Integer> quoted = new LinkedHashMap<>();
    private String now = "";

    /** The checks that follow test this sentence. */
    void says(int promise, String sentence) {
        now = key(promise, sentence);
        quoted.putIfAbsent(now, 0);
    }

    void due(String what, int got, int want) {
        quoted.merge(now, 1, Integer::sum);
        checks.due("[" + now + "] " + what, got, want);
    }

    /** Also looks whether each quote is tested and stands in the document, if it is at hand. */
    void end() throws IOException {
        quoted.forEach((quote, tests) -> checks.holds("[" + quote + "] has a test", tests > 0));
        if (Files.isReadable(DOCUMENT)) {
            compareWithDocument(Files.readString(DOCUMENT));
        } else {
            System.out.println("the document is not at hand: the quotes were not compared");
        }
        checks.end();
    }

    private static String key(int promise, String sentence) {
        return promise + ": " + sentence;
    }

    private void compareWithDocument(String document) {
        String[] sections = document.split("(?m)^## Promise \\d+: |^## Not promised");
        checks.due("parts of the document", sections.length, PROMISES + 2);
        for (String quote : quoted.keySet()) {
            int colon = quote.indexOf(": ");
            int promise = Integer.parseInt(quote.substring(0, colon));
            checks.holds("the document says [" + quote + "]", promise < sections.length
                    && sections[promise].contains(quote.substring(colon + 2)));
        }
        for (int promise = 1; promise < sections.length - 1; promise++) {
            for (String part : boundaries(sections[promise])) {
                checks.holds("a test of [" + key(promise, part) + "]",
                        quoted.containsKey(key(promise, part)));
            }
        }
    }

    /** The lines of the arguments, and the parts of the @return line, which is the last of its kind. */
    private static List<String> boundaries(String section) {
        List<String> parts = new ArrayList<>();
        String returns = "";
        for (String line : section.split("\n")) {
            if (line.startsWith("- `")) {
                parts.add(line.substring(2));
            } else if (line.startsWith("Returns ")) {
                returns = line.substring("Returns ".length());
            }
        }
        if (!returns.isEmpty()) {
            parts.addAll(List.of(returns.replaceAll("\\.$", "").split("; ")));
        }
        return parts;
    }
}
