import java.util.ArrayList;
import java.util.List;

/** Takes a line of the document apart: at ends of sentences and at semicolons, but not in parentheses or quotes. */
final class Clauses {
    private final List<String> found = new ArrayList<>();
    private final StringBuilder clause = new StringBuilder();
    private int open;
    private boolean isQuoted;

    static List<String> of(String line) {
        Clauses clauses = new Clauses();
        String text = line.replaceFirst("^- ", "").strip();
        for (int i = 0; i < text.length(); i++) {
            boolean isLast = i + 1 == text.length();
            clauses.read(text.charAt(i), isLast || text.charAt(i + 1) == ' ');
        }
        clauses.cut();
        return clauses.found;
    }

    private void read(char sign, boolean isBeforeGap) {
        if (sign == '"') isQuoted = !isQuoted;
        if (sign == '(' && !isQuoted) open++;
        if (sign == ')' && !isQuoted) open--;
        boolean isEnd = (sign == '.' || sign == ';') && isBeforeGap && open == 0 && !isQuoted;
        if (isEnd) cut();
        else clause.append(sign);
    }

    private void cut() {
        String words = clause.toString().strip();
        if (!words.isEmpty()) found.add(words);
        clause.setLength(0);
    }
}
