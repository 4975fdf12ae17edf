import java.lang.reflect.Constructor;
import java.lang.reflect.Field;
import java.lang.reflect.Method;
import java.lang.reflect.Modifier;
import java.util.Set;
import java.util.TreeSet;

/** The public face: just the document's constants, constructor and methods; and no member that others could see. */
public final class FaceTest {
    private static final Due D = new Due("FaceTest");

    private static final Set<String> FACE = Set.of("begin 2", "lot 1", "bid 2", "resolve 0", "set 2", "playerOf 2",
        "lotOf 2", "roundOf 2", "record 2", "count 1", "winner 0", "sure 1", "reply 1", "holds 2", "holding 2", "chance 1",
        "keep 0", "restore 0", "undo 0", "type 1", "clearText 0", "fault 1", "play 0");

    public static void main(String[] args) throws ReflectiveOperationException {
        constants();
        constructors();
        methods();
        classes();
        D.end();
    }

    private static void constants() throws ReflectiveOperationException {
        String[] names = {"INVALID_ARGUMENT", "NOT_POSSIBLE", "LIMIT_REACHED", "NOT_FOUND"};
        for (int i = 0; i < names.length; i++) {
            Field field = HiddenBids.class.getDeclaredField(names[i]);
            int wanted = Modifier.PUBLIC | Modifier.STATIC | Modifier.FINAL;
            D.due(names[i] + " is public static final", field.getModifiers(), wanted);
            D.due(names[i], field.getInt(null), -1000001 - i);
        }
        for (Field field : HiddenBids.class.getDeclaredFields()) {
            if (Set.of(names).contains(field.getName())) continue;
            D.isTrue(field.getName() + " is private", Modifier.isPrivate(field.getModifiers()));
            boolean fixed = !Modifier.isStatic(field.getModifiers()) || Modifier.isFinal(field.getModifiers());
            D.isTrue(field.getName() + " is no static state", fixed);
        }
    }

    private static void constructors() {
        Constructor<?>[] all = HiddenBids.class.getDeclaredConstructors();
        D.due("constructors", all.length, 1);
        D.due("no parameters", all[0].getParameterCount(), 0);
        D.isTrue("public", Modifier.isPublic(all[0].getModifiers()));
        D.due("class", HiddenBids.class.getModifiers(), Modifier.PUBLIC | Modifier.FINAL);
    }

    private static void methods() {
        Set<String> found = new TreeSet<>();
        for (Method method : HiddenBids.class.getDeclaredMethods()) {
            if (Modifier.isPrivate(method.getModifiers())) continue;
            found.add(method.getName() + " " + method.getParameterCount());
            D.due(method + " is public alone", method.getModifiers(), Modifier.PUBLIC);
            D.isTrue(method + " returns int", method.getReturnType() == int.class);
            for (Class<?> parameter : method.getParameterTypes()) D.isTrue(method + " takes int", parameter == int.class);
        }
        D.isTrue("the methods are " + found, found.equals(new TreeSet<>(FACE)));
    }

    private static void classes() {
        Class<?>[] inside = HiddenBids.class.getDeclaredClasses();
        D.isTrue("at most 12 classes", inside.length < 12);
        for (Class<?> one : inside) {
            D.isTrue(one + " is private and static",
                Modifier.isPrivate(one.getModifiers()) && Modifier.isStatic(one.getModifiers()));
            for (Method method : one.getDeclaredMethods()) {
                boolean isNew = FACE.stream().noneMatch(face -> face.startsWith(method.getName() + " "));
                D.isTrue(method + " bears no name of the face", isNew);
                D.isTrue(method + " takes at most 7 parameters", method.getParameterCount() <= 7);
            }
            long fields = java.util.Arrays.stream(one.getDeclaredFields())
                .filter(field -> !Modifier.isStatic(field.getModifiers())).count();
            D.isTrue(one + " has at most 20 fields", fields <= 20);
        }
    }
}
