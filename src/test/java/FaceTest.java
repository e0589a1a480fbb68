import java.lang.reflect.Constructor;
import java.lang.reflect.Field;
import java.lang.reflect.Method;
import java.lang.reflect.Modifier;
import java.util.Arrays;
import java.util.Map;
import java.util.Set;
import java.util.TreeMap;

/** The public face is the document's and no more, and members keep to LANGUAGE.md, rules 1, 5 and 11. */
public final class FaceTest {
    private static final Map<String, Integer> FACE = new TreeMap<>(Map.ofEntries(
        Map.entry("module", 1), Map.entry("item", 3), Map.entry("uses", 2), Map.entry("deed", 3),
        Map.entry("constant", 5), Map.entry("need", 2), Map.entry("value", 0), Map.entry("start", 2),
        Map.entry("fault", 1), Map.entry("state", 2), Map.entry("kept", 2), Map.entry("row", 3),
        Map.entry("trace", 2), Map.entry("forget", 1), Map.entry("alike", 1), Map.entry("told", 1)));

    private static final Set<Class<?>> STATIC_TYPES = Set.of(int.class, long.class, boolean.class, char.class,
        String.class, int[].class, long[].class, char[].class, byte[].class);

    private static final Check CHECK = new Check("face");

    public static void main(String[] args) {
        Class<?> type = ConstantStarts.class;
        int modifiers = type.getModifiers();
        CHECK.holds("public and final", Modifier.isPublic(modifiers) && Modifier.isFinal(modifiers));
        CHECK.holds("no package", type.getPackageName().isEmpty());
        CHECK.due("BAD", ConstantStarts.BAD, -1);
        CHECK.due("FULL", ConstantStarts.FULL, -2);
        CHECK.due("NONE", ConstantStarts.NONE, -3);
        constructors(type);
        methods(type);
        fields(type);
        CHECK.holds("twelve classes at most", type.getDeclaredClasses().length < 12);
        for (Class<?> inner : type.getDeclaredClasses()) {
            CHECK.holds(inner + " is static", Modifier.isStatic(inner.getModifiers()));
            CHECK.holds(inner + " is not public", !Modifier.isPublic(inner.getModifiers()));
            innerMembers(inner);
        }
        CHECK.end();
    }

    private static void constructors(Class<?> type) {
        Constructor<?>[] all = type.getDeclaredConstructors();
        CHECK.due("constructors", all.length, 1);
        CHECK.holds("a public one", Modifier.isPublic(all[0].getModifiers()));
        CHECK.due("its parameters", all[0].getParameterCount(), 0);
    }

    private static void methods(Class<?> type) {
        Map<String, Integer> seen = new TreeMap<>();
        for (Method method : type.getDeclaredMethods()) {
            if (Modifier.isPublic(method.getModifiers())) {
                seen.put(method.getName(), method.getParameterCount());
                CHECK.holds(method + " answers an int", method.getReturnType() == int.class);
                boolean ints = Arrays.stream(method.getParameterTypes()).allMatch(t -> t == int.class);
                CHECK.holds(method + " takes ints", ints && !Modifier.isStatic(method.getModifiers()));
            } else {
                privateMethod(method);
            }
        }
        CHECK.holds("the methods of the document: " + seen, seen.equals(FACE));
    }

    private static void privateMethod(Method method) {
        if (!method.isSynthetic()) {
            CHECK.holds(method + " is private", Modifier.isPrivate(method.getModifiers()));
            CHECK.holds(method + " has a name of its own", !FACE.containsKey(method.getName()));
            CHECK.holds(method + " has seven parameters at most", method.getParameterCount() <= 7);
        }
    }

    private static void fields(Class<?> type) {
        int open = 0;
        int held = 0;
        for (Field field : type.getDeclaredFields()) {
            boolean isStatic = Modifier.isStatic(field.getModifiers());
            open += Modifier.isPrivate(field.getModifiers()) || field.isSynthetic() ? 0 : 1;
            held += isStatic ? 0 : 1;
            CHECK.holds(field + " is final if it is static", !isStatic || Modifier.isFinal(field.getModifiers()));
            CHECK.holds(field + " may be static", !isStatic || STATIC_TYPES.contains(field.getType()));
        }
        CHECK.due("fields that are not private", open, type == ConstantStarts.class ? 3 : 0);
        CHECK.holds("twenty fields at most", held <= 20);
    }

    private static void innerMembers(Class<?> inner) {
        for (Method method : inner.getDeclaredMethods()) {
            privateMethod(method);
        }
        fields(inner);
    }
}
