import java.lang.reflect.Constructor;
import java.lang.reflect.Field;
import java.lang.reflect.Member;
import java.lang.reflect.Method;
import java.lang.reflect.Modifier;
import java.util.Arrays;
import java.util.Map;
import java.util.TreeMap;

/** The class shows the document's face, and nothing else. */
public final class FaceTest {
    private static int wrong = 0;

    private static void due(String what, Object got, Object want) {
        if (!want.equals(got)) {
            wrong++;
            System.out.println(what + ": " + got + ", due is " + want);
        }
    }

    public static void main(String[] args) throws IllegalAccessException {
        due("modifiers", Modifier.toString(TwoSurveys.class.getModifiers()), "public final");
        constants();
        constructor();
        methods();
        classesInside();
        if (wrong != 0) {
            System.exit(1);
        }
    }

    private static void constants() throws IllegalAccessException {
        Map<String, Integer> want = new TreeMap<>(
                Map.of("BAD", -1, "NO", -2, "FULL", -3, "NONE", -4, "EVEN", 100000));
        Map<String, Integer> got = new TreeMap<>();
        for (Field field : TwoSurveys.class.getDeclaredFields()) {
            if (!isPrivate(field)) {
                due(field.getName(), Modifier.toString(field.getModifiers()), "public static final");
                due("type of " + field.getName(), field.getType(), int.class);
                got.put(field.getName(), field.getInt(null));
            }
        }
        due("constants", got, want);
    }

    private static void constructor() {
        Constructor<?>[] all = TwoSurveys.class.getDeclaredConstructors();
        due("constructors", all.length, 1);
        due("constructor", all[0].toString(), "public TwoSurveys()");
    }

    private static void methods() {
        Map<String, Integer> want = new TreeMap<>();
        for (String name : "wipe fault lay undo keep back".split(" ")) {
            want.put(name, 0);
        }
        for (String name : "write named whole count".split(" ")) {
            want.put(name, 1);
        }
        for (String name : "cut tune belief match told comes shelf".split(" ")) {
            want.put(name, 2);
        }
        for (String name : "meeting street rename name shelve day".split(" ")) {
            want.put(name, 3);
        }
        want.put("move", 4);
        want.put("join", 4);
        Map<String, Integer> got = new TreeMap<>();
        for (Method method : TwoSurveys.class.getDeclaredMethods()) {
            if (isPrivate(method)) {
                due("private " + method.getName() + " has a public name",
                        want.containsKey(method.getName()), false);
                continue;
            }
            got.put(method.getName(), method.getParameterCount());
            due("modifiers of " + method.getName(), Modifier.toString(method.getModifiers()), "public");
            due("answer of " + method.getName(), method.getReturnType(), int.class);
            due("parameters of " + method.getName(),
                    Arrays.stream(method.getParameterTypes()).allMatch(type -> type == int.class), true);
        }
        due("methods", got, want);
    }

    private static void classesInside() {
        for (Class<?> inside : TwoSurveys.class.getDeclaredClasses()) {
            int modifiers = inside.getModifiers();
            due(inside.getName() + " is static", Modifier.isStatic(modifiers), true);
            due(inside.getName() + " is hidden",
                    Modifier.isPublic(modifiers) || Modifier.isProtected(modifiers), false);
        }
    }

    private static boolean isPrivate(Member member) {
        return Modifier.isPrivate(member.getModifiers());
    }
}
