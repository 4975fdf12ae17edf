import java.io.IOException;
import java.nio.file.Files;
import java.nio.file.Path;
import java.util.ArrayList;
import java.util.LinkedHashMap;
import java.util.List;
import java.util.Map;
import java.util.function.IntUnaryOperator;

/**
 * Tests told by the sentences of the document. Each claim names its sentence in the document's own words; words that
 * do not stand there, a sentence without an answer behind it, and a sentence of the document that is never named are
 * faults of the tests.
 */
final class Edges {
    static final int MIN = Integer.MIN_VALUE;
    static final int MAX = Integer.MAX_VALUE;

    private static final Path DOCUMENT = Path.of("../shared/DOC.md");
    private static final List<String> UNTESTED_SECTIONS = List.of("HiddenBids", "The public face", "Not promised");
    // What the interface says as comments, and the contents list at the top, tell of no call.
    private static final List<String> UNTESTED_BEGINNINGS = List.of("Ahead of the calls", "Auctions among a few players");

    private final Due due = new Due("EdgeTest");
    private final Map<String, List<String>> clauses = new LinkedHashMap<>();
    private final Map<String, List<String>> quotes = new LinkedHashMap<>();
    private String section = "";
    private String quote = "";
    private boolean isTested = true;

    Edges() throws IOException {
        String title = "";
        for (String line : Files.readAllLines(DOCUMENT)) {
            if (line.startsWith("#")) title = line.replaceFirst("#+ ", "");
            else clauses.computeIfAbsent(title, any -> new ArrayList<>()).addAll(Clauses.of(line));
        }
        UNTESTED_SECTIONS.forEach(clauses::remove);
        clauses.values().forEach(all -> all.removeIf(Edges::isUntested));
    }

    private static boolean isUntested(String clause) {
        return UNTESTED_BEGINNINGS.stream().anyMatch(clause::startsWith);
    }

    /** What is said from here on stands below this heading. */
    void section(String title) {
        section = title;
        due.isTrue("there is a section \"" + title + "\"", clauses.containsKey(title));
    }

    void says(String words) {
        endSentence();
        quote = words;
        isTested = false;
        quotes.computeIfAbsent(section, any -> new ArrayList<>()).add(words);
        List<String> all = clauses.getOrDefault(section, List.of());
        due.isTrue("\"" + words + "\" stands below \"" + section + "\"", all.stream().anyMatch(one -> touches(words, one)));
    }

    private void endSentence() {
        due.isTrue("\"" + quote + "\" has a test", isTested);
    }

    private static boolean touches(String words, String clause) {
        return words.contains(clause) || clause.contains(words);
    }

    void due(String call, long got, long want) {
        isTested = true;
        due.due(section + ", \"" + quote + "\": " + call, got, want);
    }

    /** One answer for many arguments; "#" in the call's name stands for the argument. */
    void each(String call, IntUnaryOperator answer, int want, int... arguments) {
        for (int argument : arguments) {
            due(call.replace("#", Integer.toString(argument)), answer.applyAsInt(argument), want);
        }
    }

    /** One answer for each of the numbers 0, 1, .. */
    void row(String call, IntUnaryOperator answer, int... wants) {
        for (int n = 0; n < wants.length; n++) {
            due(call.replace("#", Integer.toString(n)), answer.applyAsInt(n), wants[n]);
        }
    }

    void end() {
        endSentence();
        clauses.forEach((title, all) -> {
            List<String> said = quotes.getOrDefault(title, List.of());
            for (String clause : all) {
                boolean isSaid = said.stream().anyMatch(words -> touches(words, clause));
                due.isTrue("\"" + clause + "\" below \"" + title + "\" has a test", isSaid);
            }
        });
        due.end();
    }
}
