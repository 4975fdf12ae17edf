import java.io.IOException;
import java.lang.reflect.Method;
import java.nio.file.Files;
import java.nio.file.Path;
import java.util.Set;
import java.util.TreeSet;
import java.util.regex.Matcher;
import java.util.regex.Pattern;

/** README.md's examples: each call answers what stands behind it, and all calls are shown. Run from the project's folder. */
public final class ReadmeTest {
    private static final Due D = new Due("ReadmeTest");
    private static final Pattern NEW_OBJECT = Pattern.compile("HiddenBids x = new HiddenBids\\(\\);.*");
    private static final Pattern CALL = Pattern.compile("x\\.(\\w+)\\((.*?)\\); +// ([-\\w]+)(:.*)?");

    private final Set<String> shown = new TreeSet<>();
    private HiddenBids object = new HiddenBids();

    public static void main(String[] args) throws IOException, ReflectiveOperationException {
        new ReadmeTest().run();
        D.end();
    }

    private void run() throws IOException, ReflectiveOperationException {
        boolean isProgram = false;
        for (String line : Files.readAllLines(Path.of("README.md"))) {
            if (line.startsWith("```")) isProgram = line.equals("```java");
            else if (isProgram) follow(line);
        }
        for (Method method : HiddenBids.class.getMethods()) {
            boolean isCall = method.getDeclaringClass() == HiddenBids.class;
            if (isCall) D.isTrue(method.getName() + " is shown", shown.contains(method.getName()));
        }
    }

    private void follow(String line) throws ReflectiveOperationException {
        if (NEW_OBJECT.matcher(line).matches()) {
            object = new HiddenBids();
            return;
        }
        Matcher call = CALL.matcher(line);
        boolean isCall = call.matches();
        D.isTrue("\"" + line + "\" is a call and its answer", isCall);
        if (!isCall) return;
        shown.add(call.group(1));
        D.due(line, answer(call.group(1), call.group(2)), number(call.group(3)));
    }

    private int answer(String name, String list) throws ReflectiveOperationException {
        String[] words = list.isEmpty() ? new String[0] : list.split(", ");
        Class<?>[] types = new Class<?>[words.length];
        Object[] arguments = new Object[words.length];
        for (int i = 0; i < words.length; i++) {
            types[i] = int.class;
            arguments[i] = number(words[i]);
        }
        return (int) HiddenBids.class.getMethod(name, types).invoke(object, arguments);
    }

    /** A number, a sign in quotes, or a constant. */
    private static int number(String word) throws ReflectiveOperationException {
        if (word.matches("-?\\d+")) return Integer.parseInt(word);
        if (word.matches("'.'")) return word.charAt(1);
        return HiddenBids.class.getField(word).getInt(null);
    }
}
