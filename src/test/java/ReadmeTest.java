import java.io.IOException;
import java.lang.reflect.InvocationTargetException;
import java.lang.reflect.Method;
import java.lang.reflect.Modifier;
import java.nio.file.Files;
import java.nio.file.Path;
import java.util.ArrayList;
import java.util.Arrays;
import java.util.HashMap;
import java.util.List;
import java.util.Map;
import java.util.TreeSet;
import java.util.regex.Matcher;
import java.util.regex.Pattern;
import java.util.stream.Stream;

/**
 * README.md says how to use the class, and how to run the tests. Each call that it shows is made, and must be answered as
 * README.md says and as the document's example says; the tests that it tells of must be those that there are.
 */
public final class ReadmeTest {
    private static final Path README = Path.of("README.md");
    private static final Path DOCUMENT = Path.of("../shared/DOC.md");
    private static final Path TESTS = Path.of("src/test/java");
    private static final Path CI = Path.of(".ci/run");

    /** All that a run of calls may consist of. */
    private static final Pattern PART = Pattern.compile("\\s*(?:// Example (?<number>\\d): (?<title>[^\n]+)\n"
            + "|(?<made>TwoSurveys x = new TwoSurveys\\(\\);)"
            + "|String text = (?<text>\"[^\"]*\"(?:\\s+\\+ \"[^\"]*\")*);"
            + "|(?<typed>for \\(char letter : text\\.toCharArray\\(\\)\\) \\{\\s+x\\.write\\(letter\\);\\s+\\})"
            + "|x\\.(?<call>\\w+\\([-\\d, ]*\\)); +// (?<answer>-?\\d+|[A-Z]+): \\S[^\n]+)");

    private static final Map<String, Method> CALLS = new HashMap<>();
    private static final TreeSet<String> SHOWN = new TreeSet<>();
    private static int wrong = 0;

    public static void main(String[] args) throws Exception {
        for (Method method : TwoSurveys.class.getDeclaredMethods()) {
            if (Modifier.isPublic(method.getModifiers())) {
                CALLS.put(method.getName(), method);
            }
        }
        String readme = Files.readString(README);
        String document = Files.readString(DOCUMENT);
        showsRuns(section(readme, "How to use it"), document.replaceAll("\\s+", " "));
        tellsEachCall(section(readme, "How to use it"), document);
        tellsConstants(section(readme, "How to use it"));
        tellsHowToRunTests(section(readme, "How to run its tests"));
        tellsFilesThatThereAre(readme);
        if (wrong != 0) {
            System.exit(1);
        }
    }

    private static void fault(String what) {
        wrong++;
        System.out.println("README.md: " + what);
    }

    private static void due(String what, Object got, Object want) {
        if (!want.equals(got)) {
            fault(what + ": " + got + ", due is " + want);
        }
    }

    private static String section(String readme, String heading) {
        int start = readme.indexOf("\n## " + heading + "\n");
        if (start < 0) {
            fault("has no section '" + heading + "'");
            return "";
        }
        int end = readme.indexOf("\n## ", start + 1);
        return readme.substring(start, end < 0 ? readme.length() : end);
    }

    // ---- the runs of calls

    private static void showsRuns(String use, String document) throws IllegalAccessException {
        TreeSet<String> examples = new TreeSet<>();
        Matcher block = Pattern.compile("```java\n(.*?)```", Pattern.DOTALL).matcher(use);
        while (block.find()) {
            examples.add(run(block.group(1).stripTrailing(), document));
        }
        due("the examples that are shown", examples.toString(), "[1, 2, 3, 4, 5]");
        due("the calls that are shown", SHOWN, new TreeSet<>(CALLS.keySet()));
    }

    /** Makes the calls of a block; answers the number of its example. */
    private static String run(String block, String document) throws IllegalAccessException {
        String number = "";
        String text = "";
        List<String> calls = new ArrayList<>();
        List<String> laid = new ArrayList<>();
        TwoSurveys x = null;
        Matcher part = PART.matcher(block);
        int end = 0;
        while (end < block.length() && part.region(end, block.length()).lookingAt()) {
            end = part.end();
            if (part.group("number") != null) {
                number = part.group("number");
                calls = example(document, number + ". " + part.group("title") + ": ");
            } else if (part.group("made") != null) {
                x = new TwoSurveys();
            } else if (part.group("text") != null) {
                text = part.group("text").replaceAll("\"\\s+\\+ \"", "").replace("\"", "");
                laid = callsOfText(text, document);
            } else if (part.group("typed") != null) {
                type(x, text);
            } else {
                answer(x, part.group("call"), part.group("answer"), laid.isEmpty() ? calls : laid);
            }
        }
        if (end < block.length()) {
            fault("is no call with its answer: " + block.substring(end).strip().split("\n")[0]);
        }
        due("calls that are due behind a text", laid, List.of());
        return number;
    }

    private static void type(TwoSurveys x, String text) {
        for (char letter : text.toCharArray()) {
            due("write(" + letter + ") of " + text, x != null && x.write(letter) > 0, true);
        }
    }

    /** The calls of an example, with the answers that the document gives: "call = answer". */
    private static List<String> example(String document, String heading) {
        List<String> calls = new ArrayList<>();
        int start = document.indexOf(" " + heading);
        int end = document.indexOf(". ", start + heading.length());
        if (start < 0 || end < 0) {
            fault("the document has no example " + heading);
        } else {
            calls.addAll(Arrays.asList(document.substring(start + heading.length() + 1, end).split("; ")));
        }
        return calls;
    }

    /** What the document says of the initial text: it has no fault, and lay() tells how many meetings are in it. */
    private static List<String> callsOfText(String text, String document) {
        due("its text is that of the initial surveys", document.contains("those of the text " + text + " and the"), true);
        return new ArrayList<>(List.of("fault() = " + TwoSurveys.NONE, "lay() = " + text.replaceAll("[^ab]", "").length()));
    }

    /** The call is answered as is shown, and as one of those calls is, which are then those behind it. */
    private static void answer(TwoSurveys x, String call, String shown, List<String> calls) throws IllegalAccessException {
        String want = shown.replace("BAD", "-1").replace("NONE", "-4").replace("NO", "-2").replace("FULL", "-3");
        SHOWN.add(call.substring(0, call.indexOf('(')));
        due(call, "" + ask(x, call), want);
        int at = calls.indexOf(call + " = " + want);
        if (at < 0) {
            fault("the document does not say " + call + " = " + want + " among " + calls);
        }
        calls.subList(0, at + 1).clear();
    }

    /** Makes a call that is written as in Java. */
    private static int ask(TwoSurveys x, String call) throws IllegalAccessException {
        int open = call.indexOf('(');
        String inside = call.substring(open + 1, call.indexOf(')'));
        Object[] arguments = inside.isEmpty() ? new Object[0]
                : Arrays.stream(inside.split(", ")).map(Integer::valueOf).toArray();
        Method method = CALLS.get(call.substring(0, open));
        if (x == null || method == null || method.getParameterCount() != arguments.length) {
            fault("can't be called: " + call);
            return 0;
        }
        try {
            return (int) method.invoke(x, arguments);
        } catch (InvocationTargetException broken) {
            throw new IllegalStateException(call + " threw " + broken.getCause());
        }
    }

    // ---- the tables

    /** There is a row for the constructor and each method, with the names that the document gives to the arguments. */
    private static void tellsEachCall(String use, String document) {
        TreeSet<String> want = new TreeSet<>();
        Matcher signature = Pattern.compile("    public (?:int )?(\\w+\\([^)]*\\));").matcher(document);
        while (signature.find()) {
            want.add(signature.group(1).replace("int ", ""));
        }
        due("calls in the document's face", want.size(), 1 + CALLS.size());
        TreeSet<String> got = new TreeSet<>();
        Matcher row = Pattern.compile("\n\\| `(\\w+\\([^)]*\\))` \\|[^|\n]*\\|[^|\n]*\\|").matcher(use);
        while (row.find()) {
            got.add(row.group(1));
        }
        due("the table of calls", got, want);
    }

    private static void tellsConstants(String use) {
        due("code BAD", use.contains("| `BAD` | " + TwoSurveys.BAD + " |"), true);
        due("code NO", use.contains("| `NO` | " + TwoSurveys.NO + " |"), true);
        due("code FULL", use.contains("| `FULL` | " + TwoSurveys.FULL + " |"), true);
        due("code NONE", use.contains("| `NONE` | " + TwoSurveys.NONE + " |"), true);
        due("EVEN", use.contains("`EVEN` (" + TwoSurveys.EVEN + ")"), true);
    }

    // ---- the tests

    private static void tellsHowToRunTests(String tests) throws IOException {
        due("the command", tests.contains("\n    .ci/run\n"), true);
        due(CI + " can be run", Files.isExecutable(CI), true);
        due("the other tests", tests.contains("`../shared/tests`"), true);
        TreeSet<String> want = new TreeSet<>();
        try (Stream<Path> files = Files.list(TESTS)) {
            files.forEach(file -> want.add(file.getFileName().toString()));
        }
        TreeSet<String> got = new TreeSet<>();
        Matcher line = Pattern.compile("\n- `(\\w+)`: ").matcher(tests);
        while (line.find()) {
            got.add(line.group(1) + ".java");
        }
        due("the tests", got, want);
    }

    private static void tellsFilesThatThereAre(String readme) {
        int found = 0;
        Matcher file = Pattern.compile("(?:\\.\\./shared|src)/[\\w/.]*\\w").matcher(readme);
        while (file.find()) {
            found++;
            due(file.group() + " is there", Files.exists(Path.of(file.group())), true);
        }
        due("files are named", found > 0, true);
    }
}
