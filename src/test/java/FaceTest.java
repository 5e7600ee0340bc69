import java.lang.reflect.Constructor;
import java.lang.reflect.Field;
import java.lang.reflect.Member;
import java.lang.reflect.Method;
import java.lang.reflect.Modifier;
import java.util.Map;
import java.util.Set;
import java.util.TreeMap;
import java.util.TreeSet;

/** The class has the document's face, and no other member that can be seen. */
public final class FaceTest {
    private static final Checks CHECKS = new Checks("FaceTest");
    private static final Map<String, Integer> METHODS = new TreeMap<>(Map.ofEntries(
        Map.entry("write", 1), Map.entry("wipe", 0), Map.entry("fault", 0), Map.entry("lay", 0),
        Map.entry("links", 3), Map.entry("moor", 4), Map.entry("weigh", 1), Map.entry("hours", 3),
        Map.entry("undo", 0), Map.entry("anchor", 3), Map.entry("ship", 2), Map.entry("hangs", 4),
        Map.entry("wind", 3), Map.entry("apart", 3), Map.entry("fewest", 2), Map.entry("tooMuch", 1),
        Map.entry("close", 2), Map.entry("all", 2), Map.entry("count", 1)));

    private FaceTest() { }

    public static void main(String[] args) throws Exception {
        constants();
        methods();
        constructors();
        nested();
        CHECKS.end();
    }

    private static boolean isSeen(Member member) {
        return !Modifier.isPrivate(member.getModifiers()) && !member.isSynthetic();
    }

    private static void constants() throws IllegalAccessException {
        Map<String, Integer> found = new TreeMap<>();
        for (Field field : ChainLays.class.getDeclaredFields()) {
            if (isSeen(field)) {
                int wanted = Modifier.PUBLIC | Modifier.STATIC | Modifier.FINAL;
                CHECKS.due("modifiers of " + field.getName(), field.getModifiers(), wanted);
                found.put(field.getName(), field.getInt(null));
            }
        }
        CHECKS.so("constants " + found, found.equals(Map.of("BAD", -1, "NO", -2, "FULL", -3, "NONE", -4)));
    }

    private static void methods() {
        Map<String, Integer> found = new TreeMap<>();
        Set<String> hidden = new TreeSet<>();
        for (Method method : ChainLays.class.getDeclaredMethods()) {
            if (!isSeen(method)) {
                hidden.add(method.getName());
                continue;
            }
            CHECKS.due("modifiers of " + method.getName(), method.getModifiers(), Modifier.PUBLIC);
            CHECKS.so("int " + method.getName(), method.getReturnType() == int.class);
            for (Class<?> type : method.getParameterTypes()) {
                CHECKS.so("int for " + method.getName(), type == int.class);
            }
            CHECKS.so("one " + method.getName(), found.put(method.getName(), method.getParameterCount()) == null);
        }
        CHECKS.so("methods " + found, found.equals(METHODS));
        hidden.retainAll(METHODS.keySet());
        CHECKS.so("no private method with a public one's name: " + hidden, hidden.isEmpty());
    }

    private static void constructors() {
        Constructor<?>[] found = ChainLays.class.getDeclaredConstructors();
        CHECKS.due("constructors", found.length, 1);
        CHECKS.due("parameters", found[0].getParameterCount(), 0);
        CHECKS.due("public", found[0].getModifiers(), Modifier.PUBLIC);
        CHECKS.due("public and final", ChainLays.class.getModifiers(), Modifier.PUBLIC | Modifier.FINAL);
    }

    private static void nested() {
        Class<?>[] inside = ChainLays.class.getDeclaredClasses();
        CHECKS.so("some twelve classes", inside.length < 12);
        for (Class<?> one : inside) {
            int modifiers = one.getModifiers();
            CHECKS.so("static " + one, Modifier.isStatic(modifiers));
            CHECKS.so("not public " + one, !Modifier.isPublic(modifiers) && !Modifier.isProtected(modifiers));
            CHECKS.so("some twenty fields " + one, one.getDeclaredFields().length <= 20);
            for (Method method : one.getDeclaredMethods()) {
                CHECKS.so("another name than " + method, !METHODS.containsKey(method.getName()));
                CHECKS.so("seven parameters " + method, method.getParameterCount() <= 7);
            }
        }
    }
}
