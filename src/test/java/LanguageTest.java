import java.io.IOException;
import java.nio.file.Files;
import java.nio.file.Path;
import java.util.List;
import java.util.regex.Matcher;
import java.util.regex.Pattern;

/** Some rules of shared/LANGUAGE.md, as far as the program's text shows them. Run from the project's folder. */
public final class LanguageTest {
    private static final Due D = new Due("LanguageTest");

    private static final List<String> FORBIDDEN = List.of("throw", "throws", "try", "catch", "finally", "synchronized",
        "assert", "import", "package", "protected", "instanceof", "Object", "hashCode", "toString", "equals", "random",
        "currentTimeMillis", "nanoTime", "Thread", "System\\.out", "System\\.exit", "\\w+Exact", "->", "::", "native",
        "volatile", "transient", "strictfp", "while", "static \\{", "Exception", "Error");

    public static void main(String[] args) throws IOException {
        String program = withoutComments(Files.readString(Path.of("src/main/java/HiddenBids.java")));
        for (String word : FORBIDDEN) {
            Matcher found = Pattern.compile("(?<!\\w)" + word + "(?!\\w)").matcher(program);
            D.isTrue("no " + word, !found.find());
        }
        D.isTrue("no text", program.indexOf('"') < 0);
        D.isTrue("signs 1 to 127 alone", program.chars().allMatch(sign -> sign >= 1 && sign <= 127));
        methodsAreShort(program);
        onlyConstructorsMakeObjects(program);
        D.end();
    }

    private static String withoutComments(String program) {
        return program.replaceAll("(?s)/\\*.*?\\*/", "").replaceAll("//[^\\n]*", "");
    }

    private static void methodsAreShort(String program) {
        String[] lines = program.split("\n");
        int start = 0;
        for (int i = 0; i < lines.length; i++) {
            if (lines[i].matches(" {4,8}\\S.*\\) \\{")) start = i;
            if (lines[i].matches(" {4,8}\\}")) D.isTrue("60 lines at most at line " + i, i - start <= 60);
        }
    }

    /** The room for objects holds without a count as long as no call makes one. */
    private static void onlyConstructorsMakeObjects(String program) {
        for (String line : program.split("\n")) {
            if (!line.contains("new ")) continue;
            boolean isField = line.matches("\\s+(private |final ).*= new .*;");
            D.isTrue("made by a constructor: " + line.trim(), isField || line.contains("states[index] = new State()"));
        }
    }
}
