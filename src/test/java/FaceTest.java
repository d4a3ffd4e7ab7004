import java.io.IOException;
import java.lang.reflect.Constructor;
import java.lang.reflect.Field;
import java.lang.reflect.Member;
import java.lang.reflect.Method;
import java.lang.reflect.Modifier;
import java.nio.file.Files;
import java.nio.file.Path;
import java.util.ArrayList;
import java.util.Arrays;
import java.util.List;
import java.util.Map;
import java.util.TreeMap;
import java.util.TreeSet;
import java.util.regex.Matcher;
import java.util.regex.Pattern;

/** The class shows the document's face, and nothing else; and the document has a promise for each part of it. */
public final class FaceTest {
    private static final Path DOCUMENT = Path.of("../shared/DOC.md");
    private static int wrong = 0;

    private static void due(String what, Object got, Object want) {
        if (!want.equals(got)) {
            wrong++;
            System.out.println(what + ": " + got + ", due is " + want);
        }
    }

    public static void main(String[] args) throws IllegalAccessException, IOException {
        due("modifiers", Modifier.toString(TwoSurveys.class.getModifiers()), "public final");
        constants();
        constructor();
        methods();
        classesInside();
        String document = Files.readString(DOCUMENT);
        faceOfDocument(document);
        signaturesOfPromises(document);
        if (wrong != 0) {
            System.exit(1);
        }
    }

    private static void constants() throws IllegalAccessException {
        Map<String, Integer> want = new TreeMap<>(
                Map.of("BAD", -1, "NO", -2, "FULL", -3, "NONE", -4, "EVEN", 100000));
        Map<String, Integer> got = new TreeMap<>();
        for (Field field : TwoSurveys.class.getDeclaredFields()) {
            if (!isPrivate(field)) {
                due(field.getName(), Modifier.toString(field.getModifiers()), "public static final");
                due("type of " + field.getName(), field.getType(), int.class);
                got.put(field.getName(), field.getInt(null));
            }
        }
        due("constants", got, want);
    }

    private static void constructor() {
        Constructor<?>[] all = TwoSurveys.class.getDeclaredConstructors();
        due("constructors", all.length, 1);
        due("constructor", all[0].toString(), "public TwoSurveys()");
    }

    private static void methods() {
        Map<String, Integer> want = new TreeMap<>();
        for (String name : "wipe fault lay undo keep back".split(" ")) {
            want.put(name, 0);
        }
        for (String name : "write named whole count".split(" ")) {
            want.put(name, 1);
        }
        for (String name : "cut tune belief match told comes shelf".split(" ")) {
            want.put(name, 2);
        }
        for (String name : "meeting street rename name shelve day".split(" ")) {
            want.put(name, 3);
        }
        want.put("move", 4);
        want.put("join", 4);
        Map<String, Integer> got = new TreeMap<>();
        for (Method method : TwoSurveys.class.getDeclaredMethods()) {
            if (isPrivate(method)) {
                due("private " + method.getName() + " has a public name",
                        want.containsKey(method.getName()), false);
                continue;
            }
            got.put(method.getName(), method.getParameterCount());
            due("modifiers of " + method.getName(), Modifier.toString(method.getModifiers()), "public");
            due("answer of " + method.getName(), method.getReturnType(), int.class);
            due("parameters of " + method.getName(),
                    Arrays.stream(method.getParameterTypes()).allMatch(type -> type == int.class), true);
        }
        due("methods", got, want);
    }

    private static void classesInside() {
        for (Class<?> inside : TwoSurveys.class.getDeclaredClasses()) {
            int modifiers = inside.getModifiers();
            due(inside.getName() + " is static", Modifier.isStatic(modifiers), true);
            due(inside.getName() + " is hidden",
                    Modifier.isPublic(modifiers) || Modifier.isProtected(modifiers), false);
        }
    }

    /** The document's face, line by line, is what the class shows. */
    private static void faceOfDocument(String document) throws IllegalAccessException {
        TreeSet<String> want = new TreeSet<>();
        for (String line : face(document)) {
            if (line.contains(" = ")) {
                want.addAll(Arrays.asList(line.replace(", ", ",public static final int ").split(",")));
            } else {
                want.add(line.replaceAll("int \\w+([,)])", "int$1"));
            }
        }
        TreeSet<String> got = new TreeSet<>();
        got.add(Modifier.toString(TwoSurveys.class.getModifiers()) + " class TwoSurveys");
        for (Field field : TwoSurveys.class.getFields()) {
            got.add("public static final int " + field.getName() + " = " + field.getInt(null));
        }
        got.add("public TwoSurveys()");
        for (Method method : TwoSurveys.class.getDeclaredMethods()) {
            if (!isPrivate(method)) {
                got.add(Modifier.toString(method.getModifiers()) + " " + method.getReturnType() + " " + method.getName() + "("
                        + String.join(", ", Arrays.stream(method.getParameterTypes()).map(Class::getName).toList()) + ")");
            }
        }
        due("the face, as the document tells it", got, want);
    }

    /** Its lines, without what ends them. */
    private static List<String> face(String document) {
        List<String> lines = new ArrayList<>();
        Matcher block = Pattern.compile("## The public face\\s+```java\n(.*?)\n}\n```", Pattern.DOTALL).matcher(document);
        if (block.find()) {
            for (String line : block.group(1).split("\n")) {
                lines.add(line.strip().replaceAll("( \\{|;)$", ""));
            }
        }
        return lines;
    }

    /** "The constructor and the methods follow, a promise each: the signature, then what it does." */
    private static void signaturesOfPromises(String document) {
        TreeSet<String> want = new TreeSet<>();
        for (String line : face(document)) {
            if (line.endsWith(")")) {
                want.add(line.substring("public ".length()));
            }
        }
        TreeSet<String> got = new TreeSet<>();
        Matcher promise = Pattern.compile("## Promise (\\d+): ([\\w ]+)\\s+`((?:int )?(\\w+)\\([^`]*)`").matcher(document);
        int promises = 0;
        while (promise.find()) {
            promises++;
            due("number of a promise", promise.group(1), "" + promises);
            due("heading of promise " + promises, promise.group(2), promises == 1 ? "A new object" : promise.group(4));
            got.add(promise.group(3));
        }
        due("promises", promises, 26);
        due("signatures of the promises", got, want);
    }

    private static boolean isPrivate(Member member) {
        return Modifier.isPrivate(member.getModifiers());
    }
}
