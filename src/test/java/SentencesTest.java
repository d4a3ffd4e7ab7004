import java.lang.annotation.Retention;
import java.lang.annotation.RetentionPolicy;
import java.lang.reflect.InvocationTargetException;
import java.lang.reflect.Method;
import java.math.BigInteger;
import java.nio.file.Files;
import java.nio.file.Path;
import java.util.ArrayList;
import java.util.Arrays;
import java.util.Comparator;
import java.util.HashMap;
import java.util.List;
import java.util.Map;
import java.util.TreeSet;
import java.util.regex.Matcher;
import java.util.regex.Pattern;

/**
 * For each sentence of the document a test of its own: what it says of ordinary inputs; the last value that is taken
 * and the first that is refused, at both ends; the empty and the full; and that a refused call leaves every answer as
 * it was.
 *
 * <p>A test is a method with the number of its promise and the words of the document that it stands for. At last the
 * document itself is read: words that it does not say are a fault here, and so is each word in it for which no test
 * stands. (ExamplesTest has the document's examples, FaceTest its signatures.)
 */
public final class SentencesTest {
    private static final Path DOCUMENT = Path.of("../shared/DOC.md");
    private static final int BAD = -1, NO = -2, FULL = -3, NONE = -4, EVEN = 100000;
    private static final int PROMISES = 26;
    private static final String START = "r12;n2;a0,5,5;a0,20,6;a0,34,8;a1,6,24;a0,21,25;a2,40,26;b0,8,7;b0,22,5;b0,33,11;"
            + "b0,9,28;b0,24,27;b0,30,18;s0,1,3;s1,2,0;s0,3,4;s1,4,0;s3,4,5;s4,5,0;t0,1,3;t1,2,6;t0,3,4;t1,5,7;t5,4,7;"
            + "t3,4,5;";

    // Words of the document for which several tests stand.
    private static final String ORDER = "If several of them apply, the first one in the order BAD, NO, NONE, FULL is"
            + " returned.";
    private static final String UNCHANGED = "A call that returns one of these codes changes nothing.";
    private static final String SIZES = "A survey has 1 to 8 meetings and 0 to 8 streets, each numbered from 0.";
    private static final String ACTS = "The successful calls of move(), rename(), name(), join(), cut() and tune() are"
            + " acts.";
    private static final String EIGHT_ACTS = "The last 8 acts can be undone, the latest one first.";

    private static final Map<String, Method> CALLS = new HashMap<>();
    private static int wrong = 0;
    private static String test = "";

    /** The words of the document for which a test stands. */
    @Retention(RetentionPolicy.RUNTIME)
    private @interface Says {
        int promise();

        String[] value();
    }

    public static void main(String[] args) throws Exception {
        for (Method method : TwoSurveys.class.getMethods()) {
            CALLS.put(method.getName(), method);
        }
        List<Method> tests = tests();
        for (Method each : tests) {
            run(each);
        }
        test = "the document";
        compareWithDocument(tests);
        if (wrong != 0) {
            System.exit(1);
        }
    }

    private static List<Method> tests() {
        List<Method> tests = new ArrayList<>();
        for (Method method : SentencesTest.class.getDeclaredMethods()) {
            if (method.isAnnotationPresent(Says.class)) {
                tests.add(method);
            }
        }
        // The machine gives methods in no order.
        tests.sort(Comparator.comparing((Method each) -> promiseOf(each)).thenComparing(Method::getName));
        return tests;
    }

    private static int promiseOf(Method each) {
        return each.getAnnotation(Says.class).promise();
    }

    private static void run(Method each) throws IllegalAccessException {
        test = each.getName();
        int before = wrong;
        try {
            each.invoke(null);
        } catch (InvocationTargetException broken) {
            fault("broke off by " + broken.getCause());
        }
        if (wrong > before) {
            System.out.println("    where promise " + promiseOf(each) + " says: "
                    + String.join(" .. ", each.getAnnotation(Says.class).value()));
        }
    }

    // ---- what all the tests use

    private static void fault(String what) {
        wrong++;
        System.out.println(test + ": " + what);
    }

    private static void due(String call, Object got, Object want) {
        if (!want.equals(got)) {
            fault(call + " answered " + got + ", due is " + want);
        }
    }

    /** How an object is made: a text that is laid (none for the initial surveys), and calls behind it. */
    private record Town(String name, String text, String calls, String rest) {
        TwoSurveys make() {
            TwoSurveys x = new TwoSurveys();
            if (!text.isEmpty()) {
                type(x, text);
                due("lay() of " + text, x.lay() > 0, true);
            }
            for (String call : split(calls)) {
                ask(x, call);
            }
            return x;
        }

        Town then(String more) {
            return new Town(name + " then " + more, text, calls + ";" + more, rest);
        }
    }

    private static Town laid(String text) {
        return new Town(text, text, "wipe()", "");
    }

    private static String writes(String text) {
        StringBuilder calls = new StringBuilder();
        for (int i = 0; i < text.length(); i++) {
            calls.append("write(").append((int) text.charAt(i)).append(");");
        }
        return calls.toString();
    }

    private static final Town INITIAL = new Town("the initial town", "", "", "a0,1,1;b0,1,1;");

    /** Something of each kind, and an item that is not complete. */
    private static final Town BUSY = new Town("the busy town", "", writes("a0,1,1;b0,2")
            + "shelve(0, 0, 3); shelve(1, 3, 9); move(0, 1, 22, 7); keep(); name(1, 2, 8)", ",3;");

    /** 200 letters, 8 of all meetings and streets, 9 acts, 2 states, 12 things. */
    private static final String FULL_TEXT = "a0,10,10;a0,30,10;a0,50,10;a1,10,30;a2,30,30;a3,50,30;a0,10,50;a0,35,52;"
            + "b0,11,12;b0,31,11;b0,50,12;b0,12,30;b0,30,33;b0,52,30;b0,60,60;b0,34,49;"
            + "s0,1,3;s1,2,0;s0,3,4;s1,4,0;s3,4,5;s4,5,0;s2,5,1;s4,7,9;";
    private static final Town CROWDED = new Town("the full town", FULL_TEXT,
            "tune(1, 3); join(1, 0, 1, 3); join(1, 1, 2, 6); join(1, 0, 3, 4); join(1, 1, 4, 7); keep();"
            + "join(1, 4, 5, 7); join(1, 2, 5, 1); join(1, 3, 4, 5); join(1, 4, 7, 9); keep();"
            + "shelve(0, 0, 0); shelve(0, 1, 7); shelve(0, 2, 3); shelve(0, 3, 3);"
            + "shelve(1, 0, 8); shelve(1, 1, 15); shelve(1, 2, 9); shelve(1, 3, 9);"
            + "shelve(2, 0, 7); shelve(2, 1, 15); shelve(2, 2, 0); shelve(2, 3, 8)", "");

    private static final Town LEAST = new Town("the least town", "a0,9,9;b0,9,9;", "wipe()", "a0,1,1;b0,1,1;b1,2,2;");

    /** Survey 1 has more of all than survey 0. */
    private static final Town UNEVEN = new Town("the uneven town", "r7;n1;a0,5,5;b0,5,6;b0,7,8;t1,0,3;", "", "a1,2,3;");

    private static final Town[] ALL = {INITIAL, BUSY, CROWDED, LEAST, UNEVEN};

    private static void type(TwoSurveys x, String text) {
        for (int i = 0; i < text.length(); i++) {
            x.write(text.charAt(i));
        }
    }

    private static List<String> split(String calls) {
        List<String> each = new ArrayList<>();
        for (String call : calls.split(";")) {
            if (!call.isBlank()) {
                each.add(call.trim());
            }
        }
        return each;
    }

    /** Makes a call that is written as in Java. */
    private static int ask(TwoSurveys x, String call) {
        int open = call.indexOf('(');
        String inside = call.substring(open + 1, call.indexOf(')'));
        Object[] arguments = inside.isBlank() ? new Object[0]
                : Arrays.stream(inside.split(",")).map(each -> Integer.valueOf(each.trim())).toArray();
        try {
            return (int) CALLS.get(call.substring(0, open)).invoke(x, arguments);
        } catch (InvocationTargetException | IllegalAccessException broken) {
            throw new IllegalStateException(call + " threw " + broken.getCause());
        }
    }

    /** Makes the calls of a run, "call = answer; call = answer ..", one behind the other. */
    private static void answers(Town town, String run) {
        TwoSurveys x = town.make();
        for (String each : split(run)) {
            String[] sides = each.split(" = ");
            due("(" + town.name + ") " + sides[0] + " in " + run, ask(x, sides[0]), code(sides[1]));
        }
    }

    private static int code(String answer) {
        switch (answer) {
            case "BAD": return BAD;
            case "NO": return NO;
            case "FULL": return FULL;
            case "NONE": return NONE;
            default: return Integer.parseInt(answer);
        }
    }

    /** The calls with each value in the place of '?' that a range refuses: near it, far off, and around the corner. */
    private static String beyond(String call, int least, int most) {
        long[] values = {least - 1L, most + 1L, Integer.MIN_VALUE, Integer.MAX_VALUE, Integer.MIN_VALUE + 1L + most,
            least - 256L, least + 256L, least - 65536L, least + 65536L, most - 65536L, most + 65536L};
        StringBuilder calls = new StringBuilder();
        for (long value : new TreeSet<>(Arrays.stream(values).boxed().toList())) {
            if (value < least || value > most) {
                calls.append(call.replace("?", Long.toString(value))).append(';');
            }
        }
        return calls.toString();
    }

    private static int meetings(Town town, int survey) {
        return count(town.make().count(survey));
    }

    private static int streets(Town town, int survey) {
        return count(town.make().count(2 + survey));
    }

    /** A loop over a wrong count would not end. */
    private static int count(int told) {
        return Math.max(0, Math.min(8, told));
    }

    /** Each call answers the code, in each town (in all without one), and all is then as without it. */
    private static void refused(int code, String calls, Town... towns) {
        for (Town town : towns.length == 0 ? ALL : towns) {
            for (String call : split(calls)) {
                due("(" + town.name + ") " + call, ask(town.make(), call), code);
                leavesAll(town, call);
            }
        }
    }

    private static final String MATCHING = "matching";
    private static final String REST = "rest";
    private static final String[] VIEWS = {"", MATCHING, REST, "undo()", "undo()" + ";undo()".repeat(7),
        "undo()" + ";undo()".repeat(8), "back()", "back();back()", "back();back();back()", "keep();keep()",
        "move(0, 0, 1, 59)" + ";undo()".repeat(8)};
    private static final Map<String, String> VIEWS_BEFORE = new HashMap<>();

    private static void leavesAll(Town town, String call) {
        for (String view : VIEWS) {
            String before = VIEWS_BEFORE.computeIfAbsent(town + view, key -> look(town.make(), town, view));
            TwoSurveys x = town.make();
            ask(x, call);
            same("(" + town.name + ") the " + view + " behind " + call, look(x, town, view), before);
        }
        // One object that is asked before and behind could answer from what it remembers.
        TwoSurveys asked = town.make();
        String before = glance(asked);
        ask(asked, call);
        same("(" + town.name + ") asked twice, behind " + call, glance(asked), before);
    }

    /** So few answers of each kind that one object can be asked for them twice. */
    private static String glance(TwoSurveys x) {
        StringBuilder told = new StringBuilder();
        for (int i = count(x.count(0)) - 1; i >= 0; i--) {
            told.append(" m").append(i).append('=').append(x.meeting(0, i, 1)).append(' ').append(x.match(0, i))
                    .append(' ').append(x.belief(i, 0)).append(' ').append(x.comes(i, 0)).append(' ').append(x.comes(i, 3));
        }
        for (int j = count(x.count(1)) - 1; j >= 0; j--) {
            told.append(" o").append(j).append('=').append(x.meeting(1, j, 3)).append(' ').append(x.match(1, j));
        }
        for (int s = count(x.count(2)) - 1; s >= 0; s--) {
            told.append(" s").append(s).append('=').append(x.told(s, -1)).append(' ').append(x.told(s, 1)).append(' ')
                    .append(x.named(s));
        }
        for (int what = 0; what < 10; what++) {
            told.append(" count=").append(x.count(what)).append(' ').append(what < 6 ? x.whole(what) : x.day(what, 20, 0));
        }
        return told.append(' ').append(x.fault()).append(' ').append(x.shelf(0, 0)).toString();
    }

    private static void same(String what, String got, String want) {
        String[] gots = got.split(" ");
        String[] wants = want.split(" ");
        for (int n = 0; n < Math.min(gots.length, wants.length); n++) {
            if (!gots[n].equals(wants[n])) {
                fault(what + ": answer " + n + " is " + gots[n] + ", due is " + wants[n]);
                return;
            }
        }
        due(what + ": the number of answers", gots.length, wants.length);
    }

    /**
     * What an object tells, as one view of it. All views of one object would be more than the 512 calls for which
     * the document speaks.
     */
    private static String look(TwoSurveys x, Town town, String view) {
        StringBuilder told = new StringBuilder();
        if (view.equals(MATCHING)) {
            lookAtMatching(x, told);
            return told.toString();
        }
        if (view.equals(REST)) {
            type(x, town.rest);
            told.append("lay()=").append(x.lay()).append(' ');
        } else {
            for (String call : split(view)) {
                told.append(call.replace(" ", "")).append('=').append(ask(x, call)).append(' ');
            }
        }
        lookAtSurveys(x, told);
        return told.toString();
    }

    private static void lookAtSurveys(TwoSurveys x, StringBuilder told) {
        told.append("fault()=").append(x.fault());
        for (int what = 0; what <= 9; what++) {
            told.append(" count(").append(what).append(")=").append(x.count(what));
        }
        for (int survey = 0; survey < 2; survey++) {
            int meetings = count(x.count(survey));
            int streets = count(x.count(2 + survey));
            for (int n = 0; n < meetings * 5; n++) {
                told.append(" m").append(survey).append(n / 5).append(n % 5).append('=')
                        .append(x.meeting(survey, n / 5, n % 5));
            }
            for (int n = 0; n < streets * 3; n++) {
                told.append(" s").append(survey).append(n / 3).append(n % 3).append('=')
                        .append(x.street(survey, n / 3, n % 3));
            }
        }
        for (int n = 0; n < 12; n++) {
            told.append(" shelf").append(n / 4).append(n % 4).append('=').append(x.shelf(n / 4, n % 4));
        }
    }

    private static void lookAtMatching(TwoSurveys x, StringBuilder told) {
        int meetings = count(x.count(0));
        int others = count(x.count(1));
        int streets = count(x.count(2));
        for (int i = 0; i < meetings; i++) {
            for (int j = 0; j < others; j++) {
                told.append("belief").append(i).append(j).append('=').append(x.belief(i, j)).append(' ');
            }
            for (int what = 0; what < 4; what++) {
                told.append("comes").append(i).append(what).append('=').append(x.comes(i, what)).append(' ');
            }
            told.append("match0").append(i).append('=').append(x.match(0, i)).append(' ');
        }
        for (int j = 0; j < others; j++) {
            told.append("match1").append(j).append('=').append(x.match(1, j)).append(' ');
        }
        for (int s = 0; s < streets; s++) {
            for (int k = -1; k <= 3; k++) {
                told.append("told").append(s).append(k).append('=').append(x.told(s, k)).append(' ');
            }
            told.append("named").append(s).append('=').append(x.named(s)).append(' ');
        }
        for (int what = 0; what < 6; what++) {
            told.append("whole").append(what).append('=').append(x.whole(what)).append(' ');
        }
        for (int z = 0; z <= 9999; z += 1111) {
            told.append("day").append(z).append('=').append(x.day(z, 20, 0)).append(' ');
            told.append("day").append(z).append('=').append(x.day(z, 3, 1)).append(' ');
        }
    }

    /** The call is refused if there is no such survey S, or no such meeting I in it. */
    private static void refusesMeetings(String call) {
        refused(BAD, beyond(call.replace("S", "?").replace("I", "0"), 0, 1));
        for (Town town : ALL) {
            for (int survey = 0; survey < 2; survey++) {
                String here = call.replace("S", "" + survey).replace("I", "?");
                refused(BAD, beyond(here, 0, meetings(town, survey) - 1), town);
            }
        }
    }

    /** The call is refused if there is no such survey S, or no such street I in it. */
    private static void refusesStreets(String call) {
        refused(BAD, beyond(call.replace("S", "?").replace("I", "0"), 0, 1));
        for (Town town : ALL) {
            for (int survey = 0; survey < 2; survey++) {
                String here = call.replace("S", "" + survey).replace("I", "?");
                refused(BAD, beyond(here, 0, streets(town, survey) - 1), town);
            }
        }
    }

    /** The call is an act: it is counted and undone, and behind 8 acts it drops the oldest one. */
    private static void isAct(String call, Town... towns) {
        for (Town town : towns) {
            int acts = Math.min(8, town.make().count(6) + 1);
            due("(" + town.name + ") acts behind " + call, town.then(call).make().count(6), acts);
            due("(" + town.name + ") undo() of " + call, town.then(call).make().undo(), acts - 1);
            sameTown(town.then(call + ";undo()"), town);
            Town undone = town.then(call + ";" + "undo();".repeat(acts));
            sameTown(undone, town.then("undo();".repeat(acts - 1)));
            due("(" + town.name + ") undo() of none", undone.make().undo(), NO);
        }
    }

    /** Both are alike, but for the number of acts that can be undone. */
    private static void sameTown(Town got, Town want) {
        String acts = "count\\(6\\)=\\d";
        same(got.name, look(got.make(), got, "").replaceAll(acts, ""),
                look(want.make(), want, "").replaceAll(acts, ""));
        same(got.name, look(got.make(), got, MATCHING), look(want.make(), want, MATCHING));
    }

    /** The call answers that, and what a view tells is then as before, but for what is told here ("x=none": not there). */
    private static void changes(Town town, String view, String call, int answer, String... told) {
        Map<String, String> want = byName(look(town.make(), town, view));
        for (String each : told) {
            want.put(each.substring(0, each.indexOf('=')), each.substring(each.indexOf('=') + 1));
        }
        want.values().removeIf(value -> value.equals("none"));
        TwoSurveys x = town.make();
        due("(" + town.name + ") " + call, ask(x, call), answer);
        Map<String, String> got = byName(look(x, town, view));
        TreeSet<String> names = new TreeSet<>(want.keySet());
        names.addAll(got.keySet());
        for (String name : names) {
            due("(" + town.name + ") behind " + call + ": " + name, "" + got.get(name), "" + want.get(name));
        }
    }

    private static Map<String, String> byName(String told) {
        Map<String, String> values = new HashMap<>();
        for (String each : told.trim().split(" ")) {
            values.put(each.substring(0, each.indexOf('=')), each.substring(each.indexOf('=') + 1));
        }
        return values;
    }

    // ---- what it is

    @Says(promise = 0, value = "Conflation of two road surveys of the same town. Meetings of streets in the one survey are"
        + " matched with near ones in the other, by a similarity that is improved by the similarities of their neighbors.")
    private static void whatItIsNeighborsImprove() {
        String town = "a0,7,0;a0,9,0;b0,0,0;b0,6,0;s0,1,0;t0,1,0;";
        answers(laid("n0;" + town), "match(0, 0) = 1; match(0, 1) = 0; match(1, 0) = 1; match(1, 1) = 0");
        for (int rounds = 1; rounds <= 3; rounds++) {
            answers(laid("n" + rounds + ";" + town), "match(0, 0) = 0; match(0, 1) = 1; match(1, 0) = 0; match(1, 1) = 1;"
                    + "cut(0, 0) = 0; match(0, 0) = 1; match(0, 1) = 0; move(1, 0, 60, 60) = 1; match(0, 1) = NONE");
        }
    }

    private static final String SHEET = "r2;n0;a0,0,0;a0,10,0;a0,0,10;a0,3,3;b0,0,0;b0,12,0;b0,0,11;s0,1,0;s1,3,5;"
            + "t0,2,4;t2,1,4;";

    @Says(promise = 0, value = "Streets of the first survey are expressed by streets of the second, names are carried over, and"
        + " unmatched meetings are transferred by triangles of matched ones (rubber sheeting).")
    private static void whatItIsCarriesOver() {
        answers(laid(SHEET), "told(0, -1) = 2; told(0, 0) = 0; told(0, 1) = 2; told(0, 2) = 1; named(0) = 4;"
                + "told(1, -1) = NONE; named(1) = 5; match(0, 3) = NONE; comes(3, 0) = 100018; comes(3, 1) = 5;"
                + "comes(3, 2) = 100033; comes(3, 3) = 10");
    }

    @Says(promise = 0, value = "The class reads surveys from a text, edits them with undo, computes all this exactly, and also has"
        + " shelves (typed arrays) for meetings and streets.")
    private static void whatItIsReadsEditsAndShelves() {
        answers(INITIAL.then(writes(SHEET)), "lay() = 7; comes(3, 1) = 5; move(0, 3, 4, 3) = 1; comes(3, 0) = 100024;"
                + "comes(3, 1) = 5; cut(1, 0) = 1; named(0) = 0; undo() = 1; named(0) = 4; undo() = 0; comes(3, 0) = 100018;"
                + "shelve(0, 0, 3) = 1; shelve(0, 0, 8) = NO; shelve(1, 0, 9) = 1; shelve(1, 0, 3) = NO; shelf(0, 0) = 3;"
                + "shelf(1, 0) = 9");
    }

    @Says(promise = 0, value = "An object is used for at most 512 calls after it has been made; what later calls answer is free.")
    private static void whatItIsLaterCallsComeBack() {
        List<String> calls = split("write(97); fault(); lay(); meeting(0, 0, 3); street(0, 0, 2); move(0, 0, 1, 1);"
                + "move(0, 0, 2, 2); rename(0, 0, 1); rename(0, 0, 2); name(0, 0, 1); name(0, 0, 2); join(1, 0, 1, 2);"
                + "cut(1, 0); tune(0, 20); tune(0, 3); undo(); belief(0, 0); match(0, 0); told(0, -1); named(0); comes(0, 0);"
                + "whole(1); whole(5); shelve(0, 0, 0); shelf(0, 0); day(7, 20, 1); keep(); keep(); back(); count(9)");
        for (Town town : ALL) {
            TwoSurveys x = town.make();
            for (int n = 0; n < 60 * calls.size(); n++) {
                // Whatever it answers, it does not break off.
                ask(x, calls.get(n % calls.size()));
            }
        }
    }

    // ---- promise 1: a new object

    @Says(promise = 1, value = {"Creates the initial surveys",
        "Initially the surveys are those of the text " + START + " and the text buffer is empty."})
    private static void promise1InitialSurveys() {
        sameTown(INITIAL, laid(START));
        answers(INITIAL, "count(0) = 6; count(1) = 6; count(2) = 6; count(3) = 6; count(4) = 12; count(5) = 2");
    }

    @Says(promise = 1, value = "with an empty text buffer")
    private static void promise1EmptyBuffer() {
        answers(INITIAL, "count(8) = 0; fault() = NONE; lay() = NO; wipe() = 0; write(32) = 1");
    }

    @Says(promise = 1, value = "and empty shelves")
    private static void promise1EmptyShelves() {
        answers(INITIAL, "count(9) = 0; shelf(0, 0) = NONE; shelf(0, 1) = NONE; shelf(0, 2) = NONE; shelf(0, 3) = NONE;"
                + "shelf(1, 0) = NONE; shelf(1, 1) = NONE; shelf(1, 2) = NONE; shelf(1, 3) = NONE;"
                + "shelf(2, 0) = NONE; shelf(2, 1) = NONE; shelf(2, 2) = NONE; shelf(2, 3) = NONE");
    }

    @Says(promise = 1, value = "nothing can be undone")
    private static void promise1NothingUndone() {
        answers(INITIAL, "count(6) = 0; undo() = NO; move(0, 0, 6, 5) = 1; undo() = 0; undo() = NO");
    }

    @Says(promise = 1, value = "and nothing is kept")
    private static void promise1NothingKept() {
        answers(INITIAL, "count(7) = 0; back() = NO; keep() = 1; back() = 0; back() = NO");
    }

    @Says(promise = 1, value = "Creates the initial surveys, with an empty text buffer and empty shelves;")
    private static void promise1ObjectsHaveNothingInCommon() {
        TwoSurveys x = INITIAL.make();
        CROWDED.make();
        same("an object beside another one", look(x, INITIAL, ""), look(INITIAL.make(), INITIAL, ""));
    }

    @Says(promise = 1, value = "The error codes are BAD (-1: an argument is out of range, or names something that does"
        + " not exist), NO (-2: the call is not possible, as the method says), FULL (-3: there is no room). NONE (-4)"
        + " means that there is no such thing.")
    private static void promise1Codes() {
        due("BAD", TwoSurveys.BAD, -1);
        due("NO", TwoSurveys.NO, -2);
        due("FULL", TwoSurveys.FULL, -3);
        due("NONE", TwoSurveys.NONE, -4);
        due("EVEN", TwoSurveys.EVEN, 100000);
        answers(INITIAL, "count(10) = -1; undo() = -2; keep() = 1; keep() = 2; keep() = -3; shelf(0, 0) = -4");
    }

    @Says(promise = 1, value = "An object is used for at most 512 calls after it has been made")
    private static void promise1AnswersThe512thCall() {
        TwoSurveys moved = new TwoSurveys();
        for (int n = 1; n <= 502; n++) {
            due("move number " + n, moved.move(0, 0, n % 61, n / 61), 1);
        }
        for (int left = 7; left >= 0; left--) {
            due("undo() behind 502 acts", moved.undo(), left);
        }
        due("undo() number 9", moved.undo(), NO);
        due("x of act 494, as call 512", moved.meeting(0, 0, 1), 6);
        TwoSurveys asked = CROWDED.make();
        int calls = FULL_TEXT.length() + 1 + split(CROWDED.calls).size();
        for (int n = calls + 1; n <= 512; n++) {
            due("count(8) as call " + n, asked.count(8), 200);
        }
        TwoSurveys written = new TwoSurveys();
        for (int n = 1; n <= 512; n++) {
            due("write(97) as call " + n, written.write(97), n <= 200 ? n : FULL);
        }
        TwoSurveys whole = new TwoSurveys();
        for (int n = 1; n <= 512; n++) {
            due("whole(5) as call " + n, whole.whole(5), 5);
        }
    }

    // ---- promise 2: write

    @Says(promise = 2, value = {"its code, 32 to 126", "with the codes 32 to 126"})
    private static void promise2TakesCodes32To126() {
        answers(INITIAL, "write(32) = 1; write(33) = 2; write(125) = 3; write(126) = 4; count(8) = 4");
        TwoSurveys x = new TwoSurveys();
        for (int letter = 32; letter <= 126; letter++) {
            due("write(" + letter + ")", x.write(letter), letter - 31);
        }
    }

    @Says(promise = 2, value = "Appends a character to the text buffer.")
    private static void promise2Appends() {
        changes(INITIAL, "", "write(97)", 1, "count(8)=1", "fault()=0");
        changes(BUSY, "", "write(44)", 12, "count(8)=12");
        changes(INITIAL.then(writes("r1")), "", "write(59)", 3, "count(8)=3", "fault()=" + NONE);
        answers(INITIAL.then(writes("a1,2,34;b3,45,6;")), "lay() = 2; meeting(0, 0, 0) = 1; meeting(0, 0, 1) = 2;"
                + "meeting(0, 0, 2) = 34; meeting(1, 0, 0) = 3; meeting(1, 0, 1) = 45; meeting(1, 0, 2) = 6;"
                + "write(98) = 17; write(127) = BAD; write(48) = 18; write(44) = 19; write(55) = 20; write(31) = BAD;"
                + "write(44) = 21; write(56) = 22; write(59) = 23; lay() = 3; meeting(1, 1, 1) = 7; meeting(1, 1, 2) = 8");
    }

    @Says(promise = 2, value = {"BAD if letter is out of range", UNCHANGED})
    private static void promise2RefusesOtherCodes() {
        refused(BAD, beyond("write(?)", 32, 126), INITIAL, BUSY, LEAST, UNEVEN);
        refused(BAD, "write(0); write(10); write(128); write(255); write(353); write(65633)", INITIAL, BUSY);
    }

    @Says(promise = 2, value = "Returns how many characters the buffer has then")
    private static void promise2TellsHowMany() {
        TwoSurveys x = new TwoSurveys();
        for (int n = 1; n <= 200; n++) {
            due("write number " + n, x.write(126), n);
            due("count(8) behind write number " + n, x.count(8), n);
        }
    }

    @Says(promise = 2, value = {"FULL if it has 200", "The text buffer holds at most 200 characters", UNCHANGED})
    private static void promise2RefusesThe201st() {
        TwoSurveys x = new TwoSurveys();
        type(x, "r1;".repeat(66) + "r");
        due("write number 200", x.write(49), 200);
        due("write number 201", x.write(59), FULL);
        due("fault()", x.fault(), 198);
        refused(FULL, "write(32); write(59); write(97); write(126)", CROWDED);
        answers(CROWDED, "write(59) = FULL; wipe() = 200; write(59) = 1");
    }

    @Says(promise = 2, value = ORDER)
    private static void promise2BadBeforeFull() {
        refused(BAD, beyond("write(?)", 32, 126), CROWDED);
    }

    // ---- promise 3: wipe

    @Says(promise = 3, value = "Empties the text buffer.")
    private static void promise3Empties() {
        answers(BUSY, "fault() = 7; wipe() = 11; count(8) = 0; fault() = NONE; lay() = NO; write(97) = 1; fault() = 0");
        answers(INITIAL, "wipe() = 0; count(8) = 0");
        for (Town town : ALL) {
            TwoSurveys x = town.then("wipe()").make();
            type(x, "a0,1,1;b3,60,0;");
            due("(" + town.name + ") lay() of what is typed behind wipe()", x.lay(), 2);
        }
        sameTown(BUSY.then("wipe();" + writes("a0,1,1;b0,2")), BUSY);
    }

    @Says(promise = 3, value = "Returns how many characters it had.")
    private static void promise3TellsHowMany() {
        answers(INITIAL, "wipe() = 0; write(32) = 1; wipe() = 1; wipe() = 0");
        answers(CROWDED, "wipe() = 200; wipe() = 0");
        answers(CROWDED, "write(32) = FULL; write(31) = BAD; wipe() = 200");
        TwoSurveys x = new TwoSurveys();
        type(x, FULL_TEXT.substring(1));
        due("wipe() of 199", x.wipe(), 199);
    }

    // ---- promise 4: fault

    private static final String EIGHT = "a0,1,1;".repeat(8);
    private static final String EIGHT_OTHERS = "b0,1,1;".repeat(8);

    private static void faults(int want, String... texts) {
        for (String text : texts) {
            TwoSurveys x = new TwoSurveys();
            type(x, text);
            due("fault() of " + text, x.fault(), want);
        }
    }

    private static void good(String... texts) {
        faults(NONE, texts);
    }

    /** Each item is a fault behind that text, also with a good one behind it. */
    private static void faultyBehind(String text, String... items) {
        faults(NONE, text);
        for (String item : items) {
            faults(text.length(), text + item, text + item + "r1;");
        }
    }

    private static void faulty(String... items) {
        faultyBehind("", items);
        faultyBehind("r20;b0,0,0;a0,0,0;", items);
    }

    @Says(promise = 4, value = {"Returns the index; NONE if it has no fault.",
        "A text is a sequence of items in any order."})
    private static void promise4NoFault() {
        good("", "r1;", "n1;", "a0,1,1;", "b0,1,1;", "a0,1,1;a0,1,1;s0,1,1;", "b0,1,1;b0,1,1;t0,1,1;");
        good("b0,1,1;a0,1,1;n1;b0,2,2;t1,0,1;r1;a0,1,1;s1,0,1;n2;a0,3,3;s2,0,1;b0,1,1;");
        good(FULL_TEXT, START, "r1;".repeat(66), "r1;".repeat(64) + "n03;r20;");
        refused(NONE, "fault()", INITIAL, CROWDED, LEAST, UNEVEN);
    }

    @Says(promise = 4, value = {"Returns the fault of the text in the buffer.", "The fault of a text is the index (from"
        + " 0) of the first character of the first item that is not as described"})
    private static void promise4FirstFault() {
        faults(0, "x", "x;", ";", "r1", "x1;y1;");
        faults(3, "r1;x", "r1;x1;y1;", "n1;r21;r22;");
        faults(7, "a0,1,1;r0;", "a0,1,1;;a0,1,1;", "b3,9,9;a0,1,1");
        faults(197, "r1;".repeat(63) + "r10;r10;r0;");
        faults(198, "r1;".repeat(66) + "r", "r1;".repeat(66) + "rr");
        faults(199, "r1;".repeat(65) + "r10;" + "r", "r1;".repeat(65) + "r10;" + ";");
        answers(BUSY, "fault() = 7; fault() = 7; write(44) = 12; fault() = 7; write(51) = 13; fault() = 7;"
                + "write(59) = 14; fault() = NONE; write(59) = 15; fault() = 14");
    }

    @Says(promise = 4, value = "(also if the text ends within this item)")
    private static void promise4EndsWithinAnItem() {
        for (String item : new String[] {"r10;", "n03;", "a00,10,10;", "b3,60,60;"}) {
            for (int end = 1; end < item.length(); end++) {
                faults(0, item.substring(0, end));
                faults(4, "r12;" + item.substring(0, end));
            }
            good(item, "r12;" + item);
        }
        for (String item : new String[] {"s01,00,09;", "t1,0,0;"}) {
            for (int end = 1; end < item.length(); end++) {
                faults(28, "a0,1,1;a0,1,1;b0,1,1;b0,1,1;" + item.substring(0, end));
            }
            good("a0,1,1;a0,1,1;b0,1,1;b0,1,1;" + item);
        }
    }

    @Says(promise = 4, value = {"rR: the radius (1 to 20;", "There are a radius R (1 to 20)"})
    private static void promise4Radius() {
        good("r1;", "r01;", "r2;", "r9;", "r10;", "r19;", "r20;");
        faulty("r0;", "r00;", "r21;", "r22;", "r30;", "r99;");
    }

    @Says(promise = 4, value = {"nN: the number of rounds (0 to 3;", "and a number of rounds N (0 to 3)"})
    private static void promise4Rounds() {
        good("n0;", "n00;", "n1;", "n2;", "n3;", "n03;");
        faulty("n4;", "n04;", "n9;", "n10;", "n20;", "n30;", "n99;");
    }

    @Says(promise = 4, value = {"of kind K (0 to 3)", "A meeting has a kind (0 plain, 1 firm, 2 wide, 3 first)"})
    private static void promise4Kind() {
        good("a0,1,1;", "a3,1,1;", "a03,1,1;", "b0,1,1;", "b3,1,1;", "b00,1,1;");
        faulty("a4,1,1;", "a04,1,1;", "a9,1,1;", "a10,1,1;", "a99,1,1;", "b4,1,1;", "b04,1,1;", "b10,1,1;", "b30,1,1;");
    }

    @Says(promise = 4, value = {"at X, Y (0 to 60)", "and a position x, y (0 to 60 each)"})
    private static void promise4Place() {
        good("a0,0,60;", "a0,60,0;", "a0,00,00;", "a0,60,60;", "b0,0,60;", "b0,60,0;", "b0,00,00;", "b0,60,60;");
        faulty("a0,61,0;", "a0,0,61;", "a0,99,0;", "a0,0,99;", "b0,61,0;", "b0,0,61;", "b0,99,0;", "b0,0,99;");
    }

    @Says(promise = 4, value = {"at most 8. bK,X,Y: the same for survey 1.", SIZES, "aK,X,Y: the next meeting of survey 0"})
    private static void promise4EightMeetings() {
        good(EIGHT, EIGHT_OTHERS, EIGHT + EIGHT_OTHERS, EIGHT_OTHERS + EIGHT);
        faultyBehind(EIGHT, "a0,1,1;", "a3,60,60;");
        faultyBehind(EIGHT_OTHERS, "b0,1,1;", "b3,60,60;");
        faultyBehind(EIGHT + EIGHT_OTHERS, "a0,1,1;", "b0,1,1;");
    }

    private static final String TWO = "a0,1,1;a0,1,1;";
    private static final String TWO_AND_THREE = TWO + "b0,1,1;b0,1,1;b0,1,1;";

    @Says(promise = 4, value = {"sU,V,N: the next street of survey 0, between its meetings U and V, which are different"
        + " and told before", "A street connects two different meetings u and v of its survey"})
    private static void promise4EndsOfStreets() {
        good(TWO_AND_THREE + "s0,1,1;t0,2,1;t2,1,1;t00,01,1;", TWO_AND_THREE + "s1,0,1;t2,0,1;");
        faultyBehind(TWO_AND_THREE, "s0,0,1;", "s1,1,1;", "t2,2,1;", "t0,0,1;");
        faultyBehind(TWO_AND_THREE, "s0,2,1;", "s2,0,1;", "s2,1,1;", "t0,3,1;", "t3,2,1;", "s0,99,1;", "t99,0,1;");
        faultyBehind("a0,1,1;", "s0,1,1;a0,1,1;", "s1,0,1;a0,1,1;", "t0,1,1;b0,1,1;b0,1,1;");
        faultyBehind("", "s0,1,1;" + TWO, "t0,1,1;b0,1,1;b0,1,1;");
        faultyBehind(EIGHT + EIGHT_OTHERS, "s0,8,1;", "s8,0,1;", "t7,8,1;", "t8,7,1;");
        good(EIGHT + EIGHT_OTHERS + "s0,7,1;t7,0,1;");
    }

    @Says(promise = 4, value = {"with no street between them yet", "there is at most one street between two meetings"})
    private static void promise4OneStreetBetweenTwo() {
        faultyBehind(TWO_AND_THREE + "s0,1,1;", "s0,1,1;", "s1,0,1;", "s0,1,2;", "s1,0,0;");
        faultyBehind(TWO_AND_THREE + "t2,1,0;", "t2,1,0;", "t1,2,0;", "t02,01,9;");
        good(TWO_AND_THREE + "s0,1,1;t0,1,1;", TWO_AND_THREE + "t0,1,1;s1,0,1;", TWO_AND_THREE + "t0,1,1;t1,2,1;t2,0,1;");
    }

    @Says(promise = 4, value = {"of the name N (0 to 9)", "and has a name (1 to 9, or 0 for none)"})
    private static void promise4Name() {
        for (String item : new String[] {"s0,1,", "t2,0,"}) {
            good(TWO_AND_THREE + item + "0;", TWO_AND_THREE + item + "00;", TWO_AND_THREE + item + "9;",
                    TWO_AND_THREE + item + "09;");
            faultyBehind(TWO_AND_THREE, item + "10;", item + "11;", item + "19;", item + "90;", item + "99;");
        }
    }

    @Says(promise = 4, value = {"at most 8. tU,V,N: the same for survey 1.", SIZES})
    private static void promise4EightStreets() {
        String eight = "s0,1,0;s0,2,0;s0,3,0;s0,4,0;s0,5,0;s0,6,0;s0,7,0;s1,2,0;";
        good(EIGHT + eight, EIGHT_OTHERS + eight.replace('s', 't'));
        faultyBehind(EIGHT + eight, "s1,3,0;", "s7,6,9;");
        faultyBehind(EIGHT_OTHERS + eight.replace('s', 't'), "t1,3,0;", "t7,6,9;");
        good(EIGHT + eight + "b0,1,1;b0,1,1;t0,1,0;", EIGHT_OTHERS + eight.replace('s', 't') + TWO + "s0,1,0;");
    }

    @Says(promise = 4, value = "A number consists of one or two digits.")
    private static void promise4Digits() {
        good("r1;", "r01;", "a1,2,3;", "a01,02,03;", "r09;", "a0,19,58;");
        faulty("r;", "n;", "a,1,1;", "a0,,1;", "a0,1,;", "b,1,1;", "b0,,1;", "b0,1,;", "a,,;");
        faulty("r001;", "r010;", "r100;", "n000;", "n003;", "a000,1,1;", "a0,001,1;", "a0,1,001;", "b0,1,100;");
        faulty("r/;", "r:;", "r1/;", "r1:;", "n/;", "n:;", "a:,1,1;", "a0,/,1;", "a0,1,0:;", "r+1;", "r-1;", "ra;", "r1e;");
        faultyBehind(TWO_AND_THREE, "s,1,1;", "s0,,1;", "s0,1,;", "s000,1,1;", "s0,001,1;", "s0,1,001;", "t0,1,000;");
    }

    @Says(promise = 4, value = {"Each item is a letter, followed by numbers with a comma between two of them, followed by a"
        + " semicolon.", "The items are:"})
    private static void promise4MarksOfItems() {
        good("r1;n1;a0,1,1;b0,1,1;");
        faulty("1;", "1,1;", ";", ",", "rr1;", "ar1;", "ab0,1,1;", "R1;", "N1;", "A0,1,1;", "B0,1,1;");
        for (int letter = 32; letter <= 126; letter++) {
            if ("abnrst".indexOf(letter) < 0) {
                faulty((char) letter + "1;", (char) letter + "0,1,1;", (char) letter + "");
            }
        }
        faulty("r1,1;", "r1,;", "r,1;", "r1,1,1;", "n1,1;", "n1,1,1;", "a1;", "a0,1;", "a0,1,1,1;", "a0,1,1,;", "b0,1,;");
        faulty("r1,", "r1.", "r1:", "r1n1;", "a0;1;1;", "a0.1,1;", "a0,1;1;", "a0,1.1;", "a0,1,1,", "a0,1,1b0,1,1;");
        faulty("a0,11;", "a011;", "a01,1;");
        faultyBehind(TWO_AND_THREE, "s0,1;", "s0,1,1,1;", "s0;1;1;", "s0,1,1", "s01,1;", "S0,1,1;", "T0,1,1;", "t0,1;");
        faultyBehind("r1;", ";", ";r1;", ",r1;");
    }

    @Says(promise = 4, value = "There are no spaces.")
    private static void promise4NoSpaces() {
        faulty(" ", " r1;", "r 1;", "r1 ;", " ;", "a 0,1,1;", "a0 ,1,1;", "a0, 1,1;", "a0,1 ,1;", "a0,1, 1;", "a0,1,1 ;");
        faultyBehind("r1;", " ", " r1;");
        faultyBehind(TWO_AND_THREE, "s 0,1,1;", "s0, 1,1;", "s0,1,1 ;", "t0,1 ,1;");
    }

    @Says(promise = 4, value = {"Returns the fault of the text in the buffer.", UNCHANGED})
    private static void promise4ChangesNothing() {
        leavesAll(BUSY, "fault()");
        leavesAll(CROWDED, "fault()");
        // A text that could not be laid could be mistaken for the surveys.
        leavesAll(INITIAL.then(writes("r1;n0;a0,1,1;")), "fault()");
    }

    // ---- promise 5: lay

    @Says(promise = 5, value = "Makes the surveys those of the text in the buffer.")
    private static void promise5MakesTheSurveys() {
        answers(INITIAL.then(writes("b1,2,3;a2,4,5;r3;b3,6,7;t1,0,9;a0,60,0;n0;s0,1,4;")), "lay() = 4;"
                + "count(0) = 2; count(1) = 2; count(2) = 1; count(3) = 1; count(4) = 3; count(5) = 0;"
                + "meeting(0, 0, 0) = 2; meeting(0, 0, 1) = 4; meeting(0, 0, 2) = 5; meeting(0, 1, 0) = 0;"
                + "meeting(0, 1, 1) = 60; meeting(0, 1, 2) = 0; meeting(1, 0, 0) = 1; meeting(1, 0, 1) = 2;"
                + "meeting(1, 0, 2) = 3; meeting(1, 1, 0) = 3; meeting(1, 1, 1) = 6; meeting(1, 1, 2) = 7;"
                + "street(0, 0, 0) = 0; street(0, 0, 1) = 1; street(0, 0, 2) = 4;"
                + "street(1, 0, 0) = 1; street(1, 0, 1) = 0; street(1, 0, 2) = 9; meeting(0, 2, 0) = BAD;"
                + "meeting(1, 2, 0) = BAD; street(0, 1, 0) = BAD; street(1, 1, 0) = BAD");
        // What was there before leaves no trace.
        for (Town town : ALL) {
            Town other = town.then("wipe();" + writes("a1,9,9;b2,8,9;b0,1,1;") + "lay()");
            sameTown(other, INITIAL.then(writes("a1,9,9;b2,8,9;b0,1,1;") + "lay()"));
        }
    }

    @Says(promise = 5, value = "The shelves are empty then")
    private static void promise5EmptiesTheShelves() {
        answers(CROWDED, "count(9) = 12; lay() = 16; count(9) = 0; shelf(0, 0) = NONE; shelf(0, 3) = NONE;"
                + "shelf(1, 0) = NONE; shelf(1, 3) = NONE; shelf(2, 0) = NONE; shelf(2, 3) = NONE");
    }

    @Says(promise = 5, value = "nothing can be undone")
    private static void promise5NothingUndone() {
        answers(CROWDED, "count(6) = 8; lay() = 16; count(6) = 0; undo() = NO; cut(0, 0) = 7; undo() = 0; undo() = NO");
    }

    @Says(promise = 5, value = "and nothing is kept")
    private static void promise5NothingKept() {
        answers(CROWDED, "count(7) = 2; lay() = 16; count(7) = 0; back() = NO; keep() = 1; keep() = 2; keep() = FULL");
    }

    @Says(promise = 5, value = "The text buffer stays as it is.")
    private static void promise5LeavesTheText() {
        answers(CROWDED, "lay() = 16; count(8) = 200; fault() = NONE; cut(0, 0) = 7; lay() = 16; count(2) = 8;"
                + "write(32) = FULL; wipe() = 200; lay() = NO");
        answers(LEAST.then(writes("a0,1,1;b0,1,1;")), "lay() = 2; write(97) = 15; fault() = 14; lay() = NO");
    }

    @Says(promise = 5, value = "Returns the number of meetings of both surveys")
    private static void promise5TellsHowMany() {
        String[] texts = {"a0,1,1;b0,1,1;", "a0,1,1;b0,1,1;b0,1,1;", TWO_AND_THREE, EIGHT + "b0,1,1;",
            "a0,1,1;" + EIGHT_OTHERS, EIGHT + EIGHT_OTHERS};
        int[] want = {2, 3, 5, 9, 9, 16};
        for (int n = 0; n < texts.length; n++) {
            answers(INITIAL.then(writes(texts[n])), "lay() = " + want[n]);
        }
    }

    @Says(promise = 5, value = {SIZES, "lay() accepts a text without a fault that has at least one meeting of each"
        + " survey."})
    private static void promise5Sizes() {
        answers(INITIAL.then(writes("a0,1,1;b0,1,1;")), "lay() = 2; count(0) = 1; count(1) = 1; count(2) = 0;"
                + "count(3) = 0; meeting(0, 0, 4) = 0; meeting(0, 1, 0) = BAD; street(0, 0, 0) = BAD");
        answers(INITIAL.then(writes(FULL_TEXT)), "lay() = 16; count(0) = 8; count(1) = 8; count(2) = 8; count(3) = 0;"
                + "meeting(0, 7, 2) = 52; meeting(1, 7, 2) = 49; street(0, 7, 2) = 9; street(0, 8, 2) = BAD");
        answers(INITIAL.then(writes(EIGHT_OTHERS + "a0,1,1;" + "t0,1,0;t0,2,0;t0,3,0;t0,4,0;t0,5,0;t0,6,0;t0,7,0;t6,7,8;")),
                "lay() = 9; count(2) = 0; count(3) = 8; street(1, 7, 2) = 8; street(1, 8, 2) = BAD");
    }

    @Says(promise = 5, value = {"NO if the text is not accepted.", UNCHANGED,
        "lay() accepts a text without a fault that has at least one meeting of each survey."})
    private static void promise5RefusesOtherTexts() {
        String[] texts = {"", "r3;n1;", "a0,1,1;", "b0,1,1;", EIGHT, EIGHT_OTHERS, TWO + "s0,1,1;r5;", "a0,1,1;b0,1,1",
            "a0,1,1;b0,1,1;r0;", "a0,1,1;b0,1,1;;", "r21;a0,1,1;b0,1,1;", "x"};
        for (String text : texts) {
            for (Town town : ALL) {
                refused(NO, "lay()", town.then("wipe();" + writes(text)));
            }
        }
        refused(NO, "lay()", INITIAL, BUSY, LEAST);
    }

    @Says(promise = 5, value = {"10 without such an item; of several the last one counts).",
        "rR: the radius (1 to 20; 10 without such an item; of several the last one counts)."})
    private static void promise5Radius() {
        String town = "a0,1,1;b0,1,1;";
        String[] texts = {"", "r1;", "r20;", "r7;r8;", "r20;r1;", "r1;r20;", "n0;n3;"};
        int[] want = {10, 1, 20, 8, 1, 20, 10};
        for (int n = 0; n < texts.length; n++) {
            answers(laid(texts[n] + town), "count(4) = " + want[n]);
            answers(laid(town + texts[n]), "count(4) = " + want[n]);
        }
        answers(laid("r3;" + town + "r4;"), "count(4) = 4");
    }

    @Says(promise = 5, value = "nN: the number of rounds (0 to 3; 2 without such an item; of several the last one counts).")
    private static void promise5Rounds() {
        String town = "a0,1,1;b0,1,1;";
        String[] texts = {"", "n0;", "n3;", "n1;n0;", "n0;n3;", "n3;n1;", "r3;r1;"};
        int[] want = {2, 0, 3, 0, 3, 1, 2};
        for (int n = 0; n < texts.length; n++) {
            answers(laid(texts[n] + town), "count(5) = " + want[n]);
            answers(laid(town + texts[n]), "count(5) = " + want[n]);
        }
        answers(laid("n3;" + town + "n0;"), "count(5) = 0");
    }

    // ---- promise 6: meeting

    @Says(promise = 6, value = {"the survey, 0 or 1", "BAD if there is no such survey or meeting", UNCHANGED,
        "There are two surveys, 0 and 1.", SIZES})
    private static void promise6RefusesSurveysAndMeetings() {
        refusesMeetings("meeting(S, I, 0)");
        refused(BAD, "meeting(0, 1, 4)", LEAST, UNEVEN);
        refused(BAD, "meeting(2, 1, 4)");
        answers(UNEVEN, "meeting(0, 0, 1) = 5; meeting(0, 1, 1) = BAD; meeting(1, 1, 1) = 7; meeting(1, 2, 1) = BAD");
        answers(CROWDED, "meeting(0, 0, 1) = 10; meeting(0, 7, 1) = 35; meeting(1, 0, 1) = 11; meeting(1, 7, 1) = 34");
    }

    @Says(promise = 6, value = {"Describes a meeting.", "the meeting", "Returns the value;"})
    private static void promise6DescribesEach() {
        int[] reaches = {12, 6, 17, 7};
        for (Town town : new Town[] {laid(START), laid(FULL_TEXT).then("tune(0, 12)")}) {
            TwoSurveys x = town.make();
            int[] next = new int[2];
            for (String item : split(town.text)) {
                int survey = "ab".indexOf(item.charAt(0));
                if (survey >= 0) {
                    String of = "(" + town.name + ") meeting(" + survey + ", " + next[survey] + ", ";
                    String[] numbers = item.substring(1).split(",");
                    for (int what = 0; what < 3; what++) {
                        int want = Integer.parseInt(numbers[what]);
                        due(of + what + ")", x.meeting(survey, next[survey], what), want);
                    }
                    due(of + "3)", x.meeting(survey, next[survey], 3), reaches[Integer.parseInt(numbers[0])]);
                    due(of + "4)", x.meeting(survey, next[survey], 4), streetsAt(town.text, survey, next[survey]));
                    next[survey]++;
                }
            }
        }
    }

    private static int streetsAt(String text, int survey, int i) {
        int found = 0;
        for (String item : split(text)) {
            String[] numbers = item.substring(1).split(",");
            boolean isAtIt = numbers[0].equals("" + i) || numbers.length > 1 && numbers[1].equals("" + i);
            if (item.charAt(0) == "st".charAt(survey) && isAtIt) {
                found++;
            }
        }
        return found;
    }

    @Says(promise = 6, value = {"0: the kind; 1: x; 2: y; 3: the reach; 4: how many streets it has", "or what is out of"
        + " range", UNCHANGED})
    private static void promise6RefusesWhat() {
        refused(BAD, beyond("meeting(0, 0, ?)", 0, 4));
        refused(BAD, beyond("meeting(1, 0, ?)", 0, 4));
        answers(INITIAL, "meeting(0, 5, 0) = 2; meeting(0, 5, 1) = 40; meeting(0, 5, 2) = 26; meeting(0, 5, 3) = 17;"
                + "meeting(0, 5, 4) = 1; meeting(1, 0, 0) = 0; meeting(1, 0, 1) = 8; meeting(1, 0, 2) = 7;"
                + "meeting(1, 0, 3) = 12; meeting(1, 0, 4) = 2");
    }

    @Says(promise = 6, value = {"(0 plain, 1 firm, 2 wide, 3 first) and a position x, y (0 to 60 each)"})
    private static void promise6KindsAndPlaces() {
        Town town = laid("a0,0,60;a1,60,0;b2,0,0;b3,60,60;");
        answers(town, "meeting(0, 0, 0) = 0; meeting(0, 1, 0) = 1; meeting(1, 0, 0) = 2; meeting(1, 1, 0) = 3;"
                + "meeting(0, 0, 1) = 0; meeting(0, 0, 2) = 60; meeting(0, 1, 1) = 60; meeting(0, 1, 2) = 0;"
                + "meeting(1, 0, 1) = 0; meeting(1, 0, 2) = 0; meeting(1, 1, 1) = 60; meeting(1, 1, 2) = 60");
    }

    /** The reaches of a kind, with R from 1 to 20. */
    private static void reaches(int kind, int... want) {
        for (int radius = 1; radius <= 20; radius++) {
            Town town = laid("r" + radius + ";a" + kind + ",1,1;b0,1,1;b" + kind + ",1,1;");
            answers(town, "meeting(0, 0, 3) = " + want[radius - 1] + "; meeting(1, 1, 3) = " + want[radius - 1]);
        }
    }

    @Says(promise = 6, value = "The reach of a meeting is R if it is plain;")
    private static void promise6ReachOfPlain() {
        reaches(0, 1, 2, 3, 4, 5, 6, 7, 8, 9, 10, 11, 12, 13, 14, 15, 16, 17, 18, 19, 20);
    }

    @Says(promise = 6, value = "R / 2, rounded down, if it is firm;")
    private static void promise6ReachOfFirm() {
        reaches(1, 0, 1, 1, 2, 2, 3, 3, 4, 4, 5, 5, 6, 6, 7, 7, 8, 8, 9, 9, 10);
    }

    @Says(promise = 6, value = "the smaller one of 20 and R + 5 if it is wide;")
    private static void promise6ReachOfWide() {
        reaches(2, 6, 7, 8, 9, 10, 11, 12, 13, 14, 15, 16, 17, 18, 19, 20, 20, 20, 20, 20, 20);
    }

    @Says(promise = 6, value = "R / 2, rounded down, plus 1 if it is first.")
    private static void promise6ReachOfFirst() {
        reaches(3, 1, 2, 2, 3, 3, 4, 4, 5, 5, 6, 6, 7, 7, 8, 8, 9, 9, 10, 10, 11);
    }

    @Says(promise = 6, value = "4: how many streets it has")
    private static void promise6Streets() {
        answers(LEAST, "meeting(0, 0, 4) = 0; meeting(1, 0, 4) = 0");
        answers(UNEVEN, "meeting(0, 0, 4) = 0; meeting(1, 0, 4) = 1; meeting(1, 1, 4) = 1");
        Town star = laid(EIGHT + EIGHT_OTHERS + "s0,1,0;s2,0,0;s0,3,0;s4,0,0;s0,5,0;s6,0,0;s0,7,0;s1,2,0;");
        answers(star, "meeting(0, 0, 4) = 7; meeting(0, 1, 4) = 2; meeting(0, 2, 4) = 2; meeting(0, 7, 4) = 1;"
                + "meeting(1, 0, 4) = 0; cut(0, 7) = 7; meeting(0, 1, 4) = 1; meeting(0, 2, 4) = 1; meeting(0, 0, 4) = 7");
    }

    // ---- promise 7: street

    @Says(promise = 7, value = {"the survey, 0 or 1", "BAD if there is no such survey or street", UNCHANGED})
    private static void promise7RefusesSurveysAndStreets() {
        refusesStreets("street(S, I, 0)");
        refused(BAD, "street(0, 0, 2); street(1, 0, 0)", LEAST);
        answers(CROWDED, "street(0, 0, 2) = 3; street(0, 7, 2) = 9; street(0, 8, 2) = BAD; street(1, 0, 2) = 3;"
                + "street(1, 7, 2) = 9; street(1, 8, 2) = BAD");
        answers(UNEVEN, "street(0, 0, 0) = BAD; street(1, 0, 0) = 1; street(1, 1, 0) = BAD");
        answers(INITIAL, "street(0, 5, 0) = 4; street(0, 6, 0) = BAD; cut(0, 5) = 5; street(0, 5, 0) = BAD");
    }

    @Says(promise = 7, value = {"Describes a street.", "the street", "Returns the value;"})
    private static void promise7DescribesEach() {
        for (String text : new String[] {START, FULL_TEXT, "a0,1,1;" + EIGHT_OTHERS + "t7,0,9;t3,5,0;t5,7,1;t6,2,2;"}) {
            TwoSurveys x = laid(text).make();
            int[] next = new int[2];
            for (String item : split(text)) {
                int survey = "st".indexOf(item.charAt(0));
                for (int what = 0; survey >= 0 && what < 3; what++) {
                    due("street(" + survey + ", " + next[survey] + ", " + what + ") of " + text,
                            x.street(survey, next[survey], what), Integer.valueOf(item.substring(1).split(",")[what]));
                }
                if (survey >= 0) {
                    next[survey]++;
                }
            }
        }
    }

    @Says(promise = 7, value = {"0: u; 1: v; 2: the name", "or what is out of range", UNCHANGED})
    private static void promise7RefusesWhat() {
        refused(BAD, beyond("street(0, 0, ?)", 0, 2));
        refused(BAD, beyond("street(1, 0, ?)", 0, 2));
        answers(INITIAL, "street(1, 4, 0) = 5; street(1, 4, 1) = 4; street(1, 4, 2) = 7; street(0, 1, 2) = 0");
    }

    // ---- promise 8: move

    @Says(promise = 8, value = {"the survey, 0 or 1", "BAD if there is no such survey or meeting", UNCHANGED})
    private static void promise8RefusesSurveysAndMeetings() {
        refusesMeetings("move(S, I, 1, 1)");
        answers(UNEVEN, "move(0, 1, 1, 1) = BAD; move(1, 2, 1, 1) = BAD; move(0, 0, 1, 1) = 1; move(1, 1, 1, 1) = 1");
        answers(CROWDED, "move(0, 7, 1, 1) = 1; move(1, 7, 1, 1) = 1; move(0, 0, 1, 1) = 1; move(1, 0, 1, 1) = 1");
    }

    @Says(promise = 8, value = {"the new x, 0 to 60", "or x or y is out of range", UNCHANGED})
    private static void promise8TakesX0To60() {
        refused(BAD, beyond("move(0, 0, ?, 1)", 0, 60));
        refused(BAD, beyond("move(1, 0, ?, 1)", 0, 60), INITIAL, CROWDED);
        answers(INITIAL, "move(0, 1, 0, 6) = 1; meeting(0, 1, 1) = 0; meeting(0, 1, 2) = 6; move(0, 1, 60, 6) = 1;"
                + "meeting(0, 1, 1) = 60; move(1, 5, 0, 18) = 1; move(1, 5, 60, 18) = 1; meeting(1, 5, 1) = 60");
    }

    @Says(promise = 8, value = {"the new y, 0 to 60", "or x or y is out of range", UNCHANGED})
    private static void promise8TakesY0To60() {
        refused(BAD, beyond("move(0, 0, 1, ?)", 0, 60));
        refused(BAD, beyond("move(1, 0, 1, ?)", 0, 60), INITIAL, CROWDED);
        answers(INITIAL, "move(0, 1, 6, 0) = 1; meeting(0, 1, 2) = 0; meeting(0, 1, 1) = 6; move(0, 1, 6, 60) = 1;"
                + "meeting(0, 1, 2) = 60; move(1, 5, 18, 0) = 1; move(1, 5, 18, 60) = 1; meeting(1, 5, 2) = 60");
    }

    @Says(promise = 8, value = {"Moves a meeting.", "the meeting"})
    private static void promise8MovesNothingElse() {
        for (int n = 0; n < 16; n++) {
            String meeting = n / 8 + ", " + n % 8;
            String named = "m" + n / 8 + n % 8;
            changes(CROWDED, "", "move(" + meeting + ", " + (1 + n) + ", " + (58 - n) + ")", 1, named + "1=" + (1 + n),
                    named + "2=" + (58 - n));
        }
        changes(INITIAL, "", "move(0, 3, 6, 25)", 1, "m032=25", "count(6)=1");
        changes(INITIAL, "", "move(1, 0, 9, 7)", 1, "m101=9", "count(6)=1");
    }

    @Says(promise = 8, value = "Returns 1;")
    private static void promise8Moves() {
        answers(INITIAL, "move(0, 0, 6, 5) = 1; meeting(0, 0, 1) = 6; meeting(0, 0, 2) = 5; move(0, 0, 6, 6) = 1;"
                + "meeting(0, 0, 2) = 6; meeting(1, 0, 1) = 8; meeting(0, 1, 1) = 20; move(0, 1, 6, 6) = 1");
    }

    @Says(promise = 8, value = {"NO if it is there already.", UNCHANGED})
    private static void promise8RefusesItsPlace() {
        refused(NO, "move(0, 0, 5, 5); move(0, 5, 40, 26); move(1, 0, 8, 7); move(1, 5, 30, 18)", INITIAL);
        refused(NO, "move(0, 1, 22, 7)", BUSY);
        refused(NO, "move(0, 7, 35, 52); move(1, 6, 60, 60)", CROWDED);
        refused(NO, "move(0, 0, 9, 9); move(1, 0, 9, 9)", LEAST);
        answers(laid("a0,0,0;b0,60,60;"), "move(0, 0, 0, 0) = NO; move(1, 0, 60, 60) = NO; move(0, 0, 60, 60) = 1;"
                + "move(0, 0, 60, 60) = NO; count(6) = 1");
    }

    @Says(promise = 8, value = {"This is an act.", ACTS})
    private static void promise8IsAnAct() {
        isAct("move(0, 0, 60, 60)", ALL);
        isAct("move(1, 0, 0, 60)", ALL);
    }

    // ---- promise 9: rename

    @Says(promise = 9, value = {"the survey, 0 or 1", "BAD if there is no such survey or meeting", UNCHANGED})
    private static void promise9RefusesSurveysAndMeetings() {
        refusesMeetings("rename(S, I, 1)");
        answers(UNEVEN, "rename(0, 1, 1) = BAD; rename(1, 2, 1) = BAD; rename(0, 0, 1) = 0; rename(1, 1, 1) = 0");
        answers(CROWDED, "rename(0, 7, 1) = 0; rename(1, 7, 1) = 0; rename(0, 0, 1) = 0; rename(1, 0, 1) = 0");
    }

    @Says(promise = 9, value = {"the new kind, 0 to 3", "or k is out of range", UNCHANGED})
    private static void promise9TakesKinds0To3() {
        refused(BAD, beyond("rename(0, 0, ?)", 0, 3));
        refused(BAD, beyond("rename(1, 0, ?)", 0, 3), INITIAL, CROWDED);
        answers(INITIAL, "rename(0, 3, 0) = 1; meeting(0, 3, 0) = 0; rename(0, 3, 3) = 0; meeting(0, 3, 0) = 3;"
                + "rename(1, 3, 3) = 0; meeting(1, 3, 0) = 3; rename(1, 3, 0) = 3; meeting(1, 3, 0) = 0");
    }

    @Says(promise = 9, value = {"Changes the kind of a meeting.", "the meeting"})
    private static void promise9ChangesNothingElse() {
        int[] reaches = {10, 5, 15, 6};
        int[] kinds = {0, 0, 0, 1, 2, 3, 0, 0, 0, 0, 0, 0, 0, 0, 0, 0};
        for (int n = 0; n < 16; n++) {
            for (int k = 0; k <= 3; k++) {
                String named = "m" + n / 8 + n % 8;
                if (k != kinds[n]) {
                    changes(CROWDED, "", "rename(" + n / 8 + ", " + n % 8 + ", " + k + ")", kinds[n], named + "0=" + k,
                            named + "3=" + reaches[k]);
                }
            }
        }
        changes(INITIAL, "", "rename(0, 5, 0)", 2, "m050=0", "m053=12", "count(6)=1");
    }

    @Says(promise = 9, value = "Returns the previous kind")
    private static void promise9TellsThePreviousKind() {
        answers(INITIAL, "rename(0, 5, 0) = 2; rename(0, 5, 1) = 0; rename(0, 5, 2) = 1; rename(0, 5, 3) = 2;"
                + "rename(0, 5, 2) = 3; rename(1, 5, 3) = 0; rename(1, 5, 1) = 3; meeting(0, 5, 0) = 2");
    }

    @Says(promise = 9, value = {"NO if it has this kind already.", UNCHANGED})
    private static void promise9RefusesItsKind() {
        refused(NO, "rename(0, 0, 0); rename(0, 3, 1); rename(0, 5, 2); rename(1, 0, 0)", INITIAL, BUSY);
        refused(NO, "rename(0, 5, 3); rename(0, 7, 0); rename(1, 7, 0)", CROWDED);
        refused(NO, "rename(0, 0, 0); rename(1, 0, 0)", LEAST, UNEVEN);
    }

    @Says(promise = 9, value = {"This is an act.", ACTS})
    private static void promise9IsAnAct() {
        isAct("rename(0, 0, 3)", ALL);
        isAct("rename(1, 0, 1)", ALL);
    }

    // ---- promise 10: name

    @Says(promise = 10, value = {"the survey, 0 or 1", "BAD if there is no such survey or street", UNCHANGED})
    private static void promise10RefusesSurveysAndStreets() {
        refusesStreets("name(S, I, 7)");
        answers(UNEVEN, "name(0, 0, 1) = BAD; name(1, 1, 1) = BAD; name(1, 0, 1) = 3");
        answers(CROWDED, "name(0, 7, 1) = 9; name(1, 7, 1) = 9; name(0, 0, 1) = 3; name(1, 0, 1) = 3; name(0, 8, 1) = BAD");
    }

    @Says(promise = 10, value = {"the new name, 0 to 9", "or n is out of range", UNCHANGED})
    private static void promise10TakesNames0To9() {
        refused(BAD, beyond("name(0, 0, ?)", 0, 9));
        refused(BAD, beyond("name(1, 0, ?)", 0, 9), INITIAL, CROWDED, UNEVEN);
        answers(INITIAL, "name(0, 0, 0) = 3; street(0, 0, 2) = 0; name(0, 0, 9) = 0; street(0, 0, 2) = 9;"
                + "name(1, 5, 9) = 5; street(1, 5, 2) = 9; name(1, 5, 0) = 9; street(1, 5, 2) = 0");
    }

    @Says(promise = 10, value = {"Changes the name of a street.", "the street"})
    private static void promise10ChangesNothingElse() {
        int[] names = {3, 0, 4, 0, 5, 0, 1, 9, 3, 6, 4, 7, 7, 1, 5, 9};
        for (int n = 0; n < 16; n++) {
            String call = "name(" + n / 8 + ", " + n % 8 + ", 8)";
            changes(CROWDED, "", call, names[n], "s" + n / 8 + n % 8 + "2=8");
        }
        // A name of survey 0 has no say in the matching.
        for (int s = 0; s < 8; s++) {
            changes(CROWDED, MATCHING, "name(0, " + s + ", 8)", names[s], "named" + s + "=8");
        }
        changes(INITIAL, "", "name(1, 2, 0)", 4, "s122=0", "count(6)=1");
        changes(INITIAL, MATCHING, "name(1, 3, 6)", 7, "named3=0");
        changes(INITIAL, MATCHING, "name(1, 1, 9)", 6, "named1=9");
    }

    @Says(promise = 10, value = "Returns the previous name")
    private static void promise10TellsThePreviousName() {
        answers(INITIAL, "name(0, 1, 9) = 0; name(0, 1, 1) = 9; name(0, 1, 0) = 1; name(1, 1, 2) = 6; name(1, 1, 6) = 2;"
                + "street(0, 1, 2) = 0; street(1, 1, 2) = 6; street(0, 1, 0) = 1; street(0, 1, 1) = 2");
    }

    @Says(promise = 10, value = {"NO if it has this name already.", UNCHANGED})
    private static void promise10RefusesItsName() {
        refused(NO, "name(0, 0, 3); name(0, 1, 0); name(1, 5, 5)", INITIAL, BUSY);
        refused(NO, "name(0, 7, 9); name(1, 7, 9); name(0, 1, 0)", CROWDED);
        refused(NO, "name(1, 0, 3)", UNEVEN);
    }

    @Says(promise = 10, value = {"This is an act.", ACTS})
    private static void promise10IsAnAct() {
        isAct("name(0, 0, 9)", INITIAL, BUSY, CROWDED);
        isAct("name(1, 0, 0)", INITIAL, BUSY, CROWDED, UNEVEN);
    }

    // ---- promise 11: join

    /** Towns with room for a street between 0 and 2 in both surveys. */
    private static final Town[] WITH_ROOM = {INITIAL, BUSY, CROWDED.then("cut(0, 6); cut(1, 5)")};

    @Says(promise = 11, value = {"the survey, 0 or 1", "BAD if there is no such survey or meeting", UNCHANGED})
    private static void promise11RefusesSurveysAndMeetings() {
        refused(BAD, beyond("join(?, 0, 2, 1)", 0, 1));
        for (Town town : ALL) {
            for (int survey = 0; survey < 2; survey++) {
                int last = meetings(town, survey) - 1;
                refused(BAD, beyond("join(" + survey + ", ?, 0, 1)", 0, last), town);
                refused(BAD, beyond("join(" + survey + ", 0, ?, 1)", 0, last), town);
            }
        }
        answers(laid(TWO_AND_THREE), "join(0, 0, 2, 1) = BAD; join(0, 2, 0, 1) = BAD; join(0, 1, 0, 1) = 1;"
                + "join(1, 0, 3, 1) = BAD; join(1, 3, 0, 1) = BAD; join(1, 2, 0, 1) = 1");
        answers(laid(EIGHT + EIGHT_OTHERS), "join(0, 7, 0, 1) = 1; join(0, 0, 8, 1) = BAD; join(1, 0, 7, 1) = 1");
    }

    @Says(promise = 11, value = {"u equals v", "A street connects two different meetings u and v of its survey", UNCHANGED})
    private static void promise11RefusesOneMeeting() {
        refused(BAD, "join(0, 0, 0, 1); join(1, 0, 0, 1)");
        refused(BAD, "join(0, 5, 5, 1); join(1, 5, 5, 0)", WITH_ROOM);
        refused(BAD, "join(0, 7, 7, 9); join(1, 7, 7, 9)", CROWDED);
    }

    @Says(promise = 11, value = {"the name, 0 to 9", "or n is out of range", UNCHANGED})
    private static void promise11TakesNames0To9() {
        refused(BAD, beyond("join(0, 0, 2, ?)", 0, 9));
        refused(BAD, beyond("join(1, 2, 0, ?)", 0, 9), INITIAL, BUSY, CROWDED);
        answers(INITIAL, "join(0, 0, 2, 0) = 7; street(0, 6, 2) = 0; join(0, 5, 0, 9) = 8; street(0, 7, 2) = 9;"
                + "join(1, 0, 2, 9) = 7; street(1, 6, 2) = 9; join(1, 5, 0, 0) = 8; street(1, 7, 2) = 0");
    }

    @Says(promise = 11, value = {"Adds a street.", "a meeting", "another meeting"})
    private static void promise11AddsBehindTheOthers() {
        changes(INITIAL, "", "join(0, 5, 0, 9)", 7, "s060=5", "s061=0", "s062=9", "m004=3", "m054=2", "count(2)=7",
                "count(6)=1");
        changes(INITIAL, "", "join(1, 0, 5, 7)", 7, "s160=0", "s161=5", "s162=7", "m104=3", "m154=3", "count(3)=7",
                "count(6)=1");
        changes(LEAST.then("wipe();" + writes(EIGHT + EIGHT_OTHERS) + "lay()"), "", "join(1, 7, 6, 0)", 1, "s100=7",
                "s101=6", "s102=0", "m164=1", "m174=1", "count(3)=1", "count(6)=1");
        answers(laid(ENDS + "s0,1,0;"), "told(0, -1) = NONE; join(1, 0, 1, 5) = 1; told(0, -1) = 1; named(0) = 5; whole(5) = 1;"
                + "join(0, 1, 0, 1) = NO; undo() = 0; told(0, -1) = NONE; named(0) = 0");
    }

    @Says(promise = 11, value = "Returns how many streets the survey has then")
    private static void promise11TellsHowMany() {
        answers(laid(EIGHT + EIGHT_OTHERS), "join(0, 0, 1, 1) = 1; join(0, 0, 2, 1) = 2; join(1, 0, 1, 1) = 1;"
                + "join(0, 0, 3, 1) = 3; join(0, 0, 4, 1) = 4; join(0, 5, 0, 1) = 5; join(0, 0, 6, 1) = 6;"
                + "join(0, 0, 7, 1) = 7; join(0, 7, 6, 1) = 8; count(2) = 8; count(3) = 1; street(0, 7, 0) = 7;"
                + "street(0, 7, 1) = 6; street(0, 4, 0) = 5; street(0, 4, 1) = 0; join(1, 1, 7, 1) = 2");
    }

    @Says(promise = 11, value = {"NO if there is a street between them",
        "there is at most one street between two meetings", UNCHANGED})
    private static void promise11RefusesASecondStreet() {
        refused(NO, "join(0, 0, 1, 3); join(0, 1, 0, 0); join(0, 4, 5, 0); join(0, 5, 4, 9); join(1, 3, 4, 5);"
                + "join(1, 4, 3, 1); join(1, 0, 1, 0)", INITIAL, BUSY);
        refused(NO, "join(1, 0, 1, 3); join(1, 1, 0, 4)", UNEVEN);
        answers(INITIAL, "join(0, 2, 5, 1) = 7; join(0, 2, 5, 1) = NO; join(0, 5, 2, 2) = NO; cut(0, 6) = 6;"
                + "join(0, 5, 2, 2) = 7; join(1, 2, 5, 1) = 7");
    }

    @Says(promise = 11, value = {"FULL if the survey has 8 streets.", SIZES, UNCHANGED})
    private static void promise11RefusesTheNinth() {
        refused(FULL, "join(0, 0, 7, 0); join(0, 7, 0, 9); join(0, 6, 7, 1); join(1, 0, 7, 0); join(1, 6, 7, 9)", CROWDED);
        answers(INITIAL, "join(0, 0, 2, 1) = 7; join(0, 0, 4, 1) = 8; join(0, 0, 5, 1) = FULL; join(1, 0, 2, 1) = 7;"
                + "join(1, 0, 4, 1) = 8; join(1, 0, 5, 1) = FULL; cut(0, 0) = 7; join(0, 0, 5, 1) = 8;"
                + "join(0, 0, 1, 1) = FULL; join(1, 0, 5, 1) = FULL; undo() = 5; join(0, 0, 1, 1) = 8");
    }

    @Says(promise = 11, value = ORDER)
    private static void promise11OrderOfCodes() {
        refused(BAD, "join(0, 0, 1, 10); join(0, 1, 0, -1)", INITIAL, CROWDED);
        refused(BAD, "join(0, 0, 7, 10); join(1, 7, 0, -1); join(0, 3, 3, 1); join(0, 8, 1, 1); join(2, 0, 7, 1)", CROWDED);
        refused(NO, "join(0, 0, 1, 1); join(0, 7, 4, 1); join(1, 0, 1, 1); join(1, 7, 4, 1)", CROWDED);
    }

    @Says(promise = 11, value = {"This is an act.", ACTS})
    private static void promise11IsAnAct() {
        isAct("join(0, 0, 2, 1)", WITH_ROOM);
        isAct("join(1, 2, 0, 9)", WITH_ROOM);
    }

    // ---- promise 12: cut

    @Says(promise = 12, value = {"the survey, 0 or 1", "BAD if there is no such survey or street.", SIZES, UNCHANGED})
    private static void promise12RefusesSurveysAndStreets() {
        refusesStreets("cut(S, I)");
        refused(BAD, "cut(0, 0); cut(1, 0)", LEAST);
        answers(UNEVEN, "cut(0, 0) = BAD; cut(1, 1) = BAD; cut(1, 0) = 0; cut(1, 0) = BAD");
        answers(INITIAL, "cut(0, 5) = 5; cut(0, 5) = BAD; cut(1, 5) = 5; cut(1, 5) = BAD; cut(0, 4) = 4");
        answers(CROWDED, "cut(0, 8) = BAD; cut(0, 7) = 7; cut(0, 7) = BAD; cut(1, 7) = 7; cut(1, 7) = BAD");
    }

    @Says(promise = 12, value = {"Removes a street;", "the street"})
    private static void promise12RemovesNothingElse() {
        changes(INITIAL, "", "cut(0, 5)", 5, "s050=none", "s051=none", "s052=none", "m044=2", "m054=0", "count(2)=5",
                "count(6)=1");
        changes(INITIAL, "", "cut(1, 4)", 5, "s140=3", "s141=4", "s142=5", "s150=none", "s151=none", "s152=none", "m144=1",
                "m154=1", "count(3)=5", "count(6)=1");
        answers(laid(ENDS + "s0,1,0;t0,1,5;t0,2,6;"), "told(0, -1) = 1; cut(1, 1) = 1; told(0, -1) = 1; cut(1, 0) = 0;"
                + "told(0, -1) = NONE; join(1, 0, 1, 5) = 1; told(0, -1) = 1");
    }

    @Says(promise = 12, value = "Returns how many streets are left")
    private static void promise12TellsHowMany() {
        answers(CROWDED, "cut(0, 0) = 7; cut(0, 0) = 6; cut(0, 0) = 5; cut(0, 0) = 4; cut(1, 3) = 7; cut(0, 0) = 3;"
                + "cut(0, 0) = 2; cut(0, 0) = 1; cut(0, 0) = 0; cut(0, 0) = BAD; count(2) = 0; count(3) = 7");
    }

    @Says(promise = 12, value = "the numbers of the streets behind it decrease by 1")
    private static void promise12Renumbers() {
        for (int survey = 0; survey < 2; survey++) {
            for (int s = 0; s < 8; s++) {
                TwoSurveys before = CROWDED.make();
                TwoSurveys behind = CROWDED.make();
                due("cut(" + survey + ", " + s + ")", behind.cut(survey, s), 7);
                for (int n = 0; n < 21; n++) {
                    int old = n / 3 < s ? n / 3 : n / 3 + 1;
                    due("street " + n / 3 + " behind cut(" + survey + ", " + s + ")", behind.street(survey, n / 3, n % 3),
                            before.street(survey, old, n % 3));
                }
                due("the last street behind cut(" + survey + ", " + s + ")", behind.street(survey, 7, 0), BAD);
            }
        }
    }

    @Says(promise = 12, value = {"This is an act.", ACTS})
    private static void promise12IsAnAct() {
        isAct("cut(0, 0)", INITIAL, BUSY, CROWDED);
        isAct("cut(0, 5)", INITIAL, BUSY, CROWDED);
        isAct("cut(1, 0)", INITIAL, BUSY, CROWDED, UNEVEN);
    }

    // ---- promise 13: tune

    @Says(promise = 13, value = {"0: R; 1: N", "BAD if what or v is out of range", UNCHANGED})
    private static void promise13RefusesWhat() {
        refused(BAD, beyond("tune(?, 1)", 0, 1));
        refused(BAD, beyond("tune(?, 3)", 0, 1), INITIAL);
        answers(INITIAL, "tune(0, 3) = 12; count(4) = 3; count(5) = 2; tune(1, 3) = 2; count(5) = 3; count(4) = 3");
    }

    @Says(promise = 13, value = {"the new value: 1 to 20 for R", "There are a radius R (1 to 20)", UNCHANGED})
    private static void promise13TakesR1To20() {
        refused(BAD, beyond("tune(0, ?)", 1, 20));
        answers(INITIAL, "tune(0, 1) = 12; count(4) = 1; meeting(0, 0, 3) = 1; tune(0, 20) = 1; count(4) = 20;"
                + "tune(0, 2) = 20; tune(0, 19) = 2; count(5) = 2");
    }

    @Says(promise = 13, value = {"0 to 3 for N", "a number of rounds N (0 to 3)", UNCHANGED})
    private static void promise13TakesN0To3() {
        refused(BAD, beyond("tune(1, ?)", 0, 3));
        refused(BAD, "tune(1, 20); tune(1, 12); tune(1, 10)");
        answers(INITIAL, "tune(1, 0) = 2; count(5) = 0; tune(1, 3) = 0; count(5) = 3; tune(1, 1) = 3; count(4) = 12");
    }

    @Says(promise = 13, value = "Changes the radius or the number of rounds.")
    private static void promise13ChangesNothingElse() {
        changes(INITIAL, "", "tune(0, 9)", 12, "count(4)=9", "m003=9", "m013=9", "m023=9", "m033=4", "m043=9", "m053=14",
                "m103=9", "m113=9", "m123=9", "m133=9", "m143=9", "m153=9", "count(6)=1");
        for (int rounds : new int[] {0, 1, 3}) {
            changes(INITIAL, "", "tune(1, " + rounds + ")", 2, "count(5)=" + rounds, "count(6)=1");
        }
        answers(INITIAL, "tune(0, 2) = 12; match(0, 1) = NONE; tune(0, 3) = 2; match(0, 1) = 1; belief(0, 0) = NONE");
    }

    @Says(promise = 13, value = "Returns the previous value")
    private static void promise13TellsThePreviousValue() {
        answers(INITIAL, "tune(0, 2) = 12; tune(1, 0) = 2; tune(0, 1) = 2; tune(1, 1) = 0; tune(0, 20) = 1; tune(1, 3) = 1;"
                + "tune(0, 3) = 20; tune(1, 2) = 3; count(4) = 3; count(5) = 2");
    }

    @Says(promise = 13, value = {"NO if it has this value already.", UNCHANGED})
    private static void promise13RefusesItsValue() {
        refused(NO, "tune(0, 12); tune(1, 2)", INITIAL, BUSY);
        refused(NO, "tune(0, 10); tune(1, 3)", CROWDED);
        refused(NO, "tune(0, 10); tune(1, 2)", LEAST);
        refused(NO, "tune(0, 7); tune(1, 1)", UNEVEN);
        answers(INITIAL, "tune(0, 2) = 12; tune(0, 2) = NO; tune(1, 2) = NO; tune(1, 0) = 2; tune(1, 0) = NO");
    }

    @Says(promise = 13, value = {"This is an act.", ACTS})
    private static void promise13IsAnAct() {
        isAct("tune(0, 20)", ALL);
        isAct("tune(0, 1)", ALL);
        isAct("tune(1, 0)", ALL);
    }

    // ---- promise 14: undo

    @Says(promise = 14, value = EIGHT_ACTS)
    private static void promise14UndoesEightActs() {
        for (int acts = 0; acts <= 20; acts++) {
            TwoSurveys x = new TwoSurveys();
            for (int n = 1; n <= acts; n++) {
                due("move number " + n, x.move(0, 0, 10 + n, 0), 1);
            }
            for (int left = Math.min(8, acts) - 1; left >= 0; left--) {
                due("undo() of " + acts + " acts", x.undo(), left);
                int act = acts - Math.min(8, acts) + left;
                due("x behind act " + act, x.meeting(0, 0, 1), act == 0 ? 5 : 10 + act);
            }
            due("one undo() more of " + acts + " acts", x.undo(), NO);
            due("acts", x.count(6), 0);
        }
    }

    @Says(promise = 14, value = "the latest one first")
    private static void promise14UndoesTheLatestFirst() {
        answers(INITIAL, "move(0, 0, 1, 2) = 1; rename(1, 0, 3) = 0; name(0, 1, 9) = 0; join(1, 0, 2, 5) = 7; cut(0, 5) = 5;"
                + "tune(0, 4) = 12; tune(1, 0) = 2; move(1, 5, 0, 0) = 1; count(6) = 8;"
                + "undo() = 7; meeting(1, 5, 1) = 30; meeting(1, 5, 2) = 18; count(5) = 0;"
                + "undo() = 6; count(5) = 2; count(4) = 4; undo() = 5; count(4) = 12; count(2) = 5;"
                + "undo() = 4; count(2) = 6; street(0, 5, 0) = 4; street(0, 5, 1) = 5; street(0, 5, 2) = 0; count(3) = 7;"
                + "undo() = 3; count(3) = 6; street(1, 6, 0) = BAD; street(0, 1, 2) = 9;"
                + "undo() = 2; street(0, 1, 2) = 0; meeting(1, 0, 0) = 3; undo() = 1; meeting(1, 0, 0) = 0;"
                + "meeting(0, 0, 1) = 1; undo() = 0; meeting(0, 0, 1) = 5; meeting(0, 0, 2) = 5; undo() = NO");
        sameTown(INITIAL.then("cut(0, 0); cut(1, 5); tune(1, 0); move(0, 0, 9, 9); join(0, 0, 2, 1); name(0, 0, 1);"
                + "rename(0, 1, 1); tune(0, 1);" + "undo();".repeat(8)), INITIAL);
    }

    @Says(promise = 14, value = "Undoes the latest act that has not been undone.")
    private static void promise14SkipsWhatIsUndone() {
        answers(INITIAL, "tune(0, 1) = 12; tune(0, 2) = 1; undo() = 1; count(4) = 1; tune(0, 3) = 1; undo() = 1; count(4) = 1;"
                + "tune(0, 4) = 1; tune(0, 5) = 4; undo() = 2; count(4) = 4; undo() = 1; count(4) = 1; undo() = 0;"
                + "count(4) = 12; undo() = NO; count(4) = 12");
        answers(CROWDED, "undo() = 7; count(3) = 7; cut(1, 0) = 6; cut(1, 0) = 5; count(6) = 8; undo() = 7; undo() = 6;"
                + "count(3) = 7; undo() = 5; count(3) = 6");
    }

    @Says(promise = 14, value = ACTS)
    private static void promise14CountsSuccessfulActsOnly() {
        answers(INITIAL, "move(0, 0, 5, 5) = NO; rename(0, 0, 0) = NO; name(0, 0, 3) = NO; join(0, 0, 1, 1) = NO;"
                + "cut(0, 6) = BAD; tune(0, 12) = NO; tune(1, 4) = BAD; undo() = NO");
        answers(INITIAL, "shelve(0, 0, 0) = 1; write(97) = 1; wipe() = 1; keep() = 1; day(7, 20, 0) = 3; fault() = NONE;"
                + "undo() = NO; back() = 0; undo() = NO");
        answers(CROWDED, "join(0, 0, 7, 1) = FULL; keep() = FULL; lay() = 16; undo() = NO");
        answers(CROWDED, "wipe() = 200; shelve(0, 0, 1) = 1; join(0, 0, 7, 1) = FULL; keep() = FULL; count(6) = 8;"
                + "undo() = 7; count(3) = 7");
    }

    @Says(promise = 14, value = "(The shelves and the text buffer are not affected.)")
    private static void promise14LeavesShelvesAndText() {
        answers(INITIAL, "cut(0, 5) = 5; shelve(1, 0, 12) = 1; write(97) = 1; undo() = 0; shelf(1, 0) = 12; count(9) = 1;"
                + "count(8) = 1; fault() = 0");
        answers(INITIAL, "shelve(1, 0, 13) = 1; write(114) = 1; cut(0, 5) = 5; shelve(1, 0, 8) = 1; wipe() = 1; undo() = 0;"
                + "shelf(1, 0) = 8; count(8) = 0");
        answers(CROWDED, "undo() = 7; count(9) = 12; shelf(2, 1) = 15; count(8) = 200; count(7) = 2; lay() = 16");
    }

    @Says(promise = 14, value = "Returns how many more acts can be undone")
    private static void promise14TellsHowMany() {
        answers(CROWDED, "count(6) = 8; undo() = 7; count(6) = 7; undo() = 6; undo() = 5; undo() = 4; undo() = 3; undo() = 2;"
                + "undo() = 1; undo() = 0; count(6) = 0; undo() = NO");
        answers(BUSY, "undo() = 1; undo() = 0; undo() = NO");
    }

    @Says(promise = 14, value = {"NO if there is none to undo.", UNCHANGED})
    private static void promise14RefusesWithoutActs() {
        refused(NO, "undo()", INITIAL, LEAST, UNEVEN, INITIAL.then("keep()"), CROWDED.then("back()"),
                CROWDED.then("undo();".repeat(8)), BUSY.then("undo(); undo(); undo()"), CROWDED.then("lay()"));
    }

    // ---- promise 15: belief

    @Says(promise = 15, value = {"a meeting of survey 0", "a meeting of survey 1", "BAD if there is no such meeting",
        UNCHANGED})
    private static void promise15RefusesMeetings() {
        for (Town town : ALL) {
            refused(BAD, beyond("belief(?, 0)", 0, meetings(town, 0) - 1), town);
            refused(BAD, beyond("belief(0, ?)", 0, meetings(town, 1) - 1), town);
        }
        answers(UNEVEN, "belief(0, 1) = 9472; belief(1, 0) = BAD; belief(0, 2) = BAD");
        answers(laid(EIGHT + EIGHT_OTHERS), "belief(7, 7) = 12928; belief(0, 7) = 12928; belief(8, 0) = BAD;"
                + "belief(0, 8) = BAD");
    }

    /** 512 times what the squared distance leaves of R * R + 1, but at least 512; NONE for no pair. */
    private static void beliefs(int radius, int kind0, int kind1, int... rows) {
        for (int n = 0; n + 2 < rows.length; n += 3) {
            String text = "r" + radius + ";n0;a" + kind0 + ",10,10;b" + kind1 + "," + (10 + rows[n]) + "," + (10 + rows[n + 1]);
            answers(laid(text + ";"), "belief(0, 0) = " + rows[n + 2]);
            String other = "r" + radius + ";n0;a" + kind0 + ",50,50;b" + kind1 + "," + (50 - rows[n + 1]) + "," + (50 - rows[n]);
            answers(laid(other + ";"), "belief(0, 0) = " + rows[n + 2]);
        }
    }

    @Says(promise = 15, value = {"A meeting i of survey 0 and a meeting j of survey 1 are a pair if their squared distance"
        + " is at most the square of the smaller one of their reaches.", "NONE if they are no pair."})
    private static void promise15Pairs() {
        beliefs(10, 0, 0, 10, 0, 512, 6, 8, 512, 10, 1, NONE, 7, 8, NONE, 11, 0, NONE, 0, 0, 512 * 101);
        beliefs(10, 1, 1, 5, 0, 512 * 76, 3, 4, 512 * 76, 5, 1, NONE, 6, 0, NONE);
        beliefs(10, 3, 3, 6, 0, 512 * 65, 6, 1, NONE, 7, 0, NONE);
        beliefs(10, 2, 2, 15, 0, 512, 9, 12, 512, 15, 1, NONE, 10, 11, 512, 10, 12, NONE);
        for (int wide : new int[] {16, 19, 20}) {
            beliefs(wide, 2, 2, 20, 1, NONE, 16, 13, NONE, 21, 0, NONE);
        }
        beliefs(16, 2, 2, 20, 0, 512, 12, 16, 512);
        // The smaller one of two reaches, whichever it is.
        beliefs(10, 2, 0, 10, 0, 512, 10, 1, NONE, 15, 0, NONE);
        beliefs(10, 0, 2, 10, 0, 512, 10, 1, NONE, 15, 0, NONE);
        beliefs(10, 1, 2, 5, 0, 512 * 76, 5, 1, NONE);
        beliefs(10, 2, 1, 5, 0, 512 * 76, 5, 1, NONE);
        beliefs(10, 3, 1, 5, 0, 512 * 76, 5, 1, NONE, 6, 0, NONE);
        beliefs(10, 0, 3, 6, 0, 512 * 65, 6, 1, NONE, 10, 0, NONE);
        beliefs(1, 1, 1, 0, 0, 1024, 1, 0, NONE);
        beliefs(1, 3, 3, 1, 0, 512, 1, 1, NONE);
        beliefs(20, 0, 0, 20, 0, 512, 20, 1, NONE, 0, 0, 512 * 401);
    }

    @Says(promise = 15, value = {"The belief in a pair is at first R * R + 1 minus the squared distance, but at least 1;",
        "Returns 512 times the belief (which is an integer)"})
    private static void promise15FirstBelief() {
        beliefs(10, 2, 2, 0, 0, 512 * 101, 1, 0, 512 * 100, 7, 7, 512 * 3, 10, 0, 512, 10, 1, 512, 10, 2, 512, 11, 0, 512,
                15, 0, 512);
        beliefs(1, 0, 0, 0, 0, 1024, 1, 0, 512);
        beliefs(1, 2, 2, 0, 0, 1024, 1, 0, 512, 1, 1, 512, 6, 0, 512, 6, 1, NONE);
    }

    @Says(promise = 15, value = "for two meetings that are no pair it is always 0.")
    private static void promise15NoPairStaysNone() {
        String near = "a0,0,0;a0,10,0;b0,0,0;b0,10,1;s0,1,0;t0,1,0;";
        for (int rounds = 0; rounds <= 3; rounds++) {
            answers(laid("r10;n" + rounds + ";" + near), "belief(0, 1) = NONE; match(0, 0) = 0");
        }
        // The other ends are no pair, so that they give nothing.
        answers(laid("r5;n1;a0,0,0;a0,20,0;b0,0,0;b0,0,20;s0,1,0;t0,1,0;"), "belief(0, 0) = 6656; belief(1, 1) = NONE");
        refused(NONE, "belief(5, 5); belief(0, 1); belief(0, 4)", INITIAL);
        refused(NONE, "belief(6, 0); belief(0, 6); belief(7, 6)", CROWDED);
        refused(NONE, "belief(0, 0)", LEAST.then("move(0, 0, 60, 60)"));
    }

    @Says(promise = 15, value = {"There are N rounds.", "Returns the belief in a pair after all rounds."})
    private static void promise15Rounds() {
        String two = "a0,0,0;a0,10,0;b0,0,0;b0,10,0;s0,1,0;t0,1,0;";
        int[] near = {51712, 38784, 29088, 21816};
        int[] far = {512, 384, 288, 216};
        for (int rounds = 0; rounds <= 3; rounds++) {
            answers(laid("r10;n" + rounds + ";" + two), "belief(0, 0) = " + near[rounds] + "; belief(0, 1) = " + far[rounds]
                    + "; belief(1, 1) = " + near[rounds] + "; belief(1, 0) = " + far[rounds]);
        }
        answers(laid("r10;n0;" + two), "tune(1, 3) = 0; belief(0, 0) = 21816; tune(1, 1) = 3; belief(0, 0) = 38784;"
                + "undo() = 1; belief(0, 0) = 21816; undo() = 0; belief(0, 0) = 51712");
    }

    @Says(promise = 15, value = "The squared distance of two meetings is the sum of the squares of the differences of x and of y.")
    private static void promise15SquaredDistance() {
        for (int across = -21; across <= 21; across++) {
            TwoSurveys x = laid("r20;n0;a0,30,30;b0," + (30 + across) + ",5;").make();
            for (int up = -21; up <= 21; up++) {
                int distance = across * across + up * up;
                due("move(1, 0, " + (30 + across) + ", " + (30 + up) + ")", x.move(1, 0, 30 + across, 30 + up), 1);
                due("belief of 30, 30 in " + (30 + across) + ", " + (30 + up), x.belief(0, 0),
                        distance <= 400 ? 512 * (401 - distance) : NONE);
            }
        }
    }

    @Says(promise = 15, value = {"In a round, the belief in each pair (i, j) becomes",
        "Returns the belief in a pair after all rounds."})
    private static void promise15EachPair() {
        // i, j and the beliefs with 0, 1, 2 and 3 rounds; no others of the initial town are pairs.
        int[][] pairs = {{0, 0, 67584, 67072, 67872, 67312}, {1, 1, 71680, 72832, 72192, 71672},
            {2, 2, 69120, 52480, 44448, 40272}, {2, 5, 14848, 25344, 30880, 33488}, {3, 3, 61440, 64512, 61312, 57800},
            {4, 4, 67584, 49152, 40704, 35680}, {4, 5, 7680, 21760, 29088, 32592}};
        for (int rounds = 0; rounds <= 3; rounds++) {
            TwoSurveys x = INITIAL.then("tune(1, " + rounds + ")").make();
            for (int n = 0; n < 36; n++) {
                int want = NONE;
                for (int[] pair : pairs) {
                    want = pair[0] == n / 6 && pair[1] == n % 6 ? pair[2 + rounds] : want;
                }
                due("belief(" + n / 6 + ", " + n % 6 + ") with " + rounds + " rounds", x.belief(n / 6, n % 6), want);
            }
        }
    }

    @Says(promise = 15, value = "(0 if there are no such streets)")
    private static void promise15WithoutStreets() {
        int[] halves = {512 * 376, 256 * 376, 128 * 376, 64 * 376};
        for (int rounds = 0; rounds <= 3; rounds++) {
            String text = "r20;n" + rounds + ";a0,3,4;a0,3,4;b0,0,0;b0,0,0;";
            for (String streets : new String[] {"", "s0,1,0;", "t1,0,0;"}) {
                answers(laid(text + streets), "belief(0, 0) = " + halves[rounds] + "; belief(1, 1) = " + halves[rounds]);
            }
        }
    }

    @Says(promise = 15, value = "In a round, the belief in each pair (i, j) becomes half of its belief before the round, plus"
        + " one eighth of the sum of: for each street at i, with the other end k, the greatest belief in (k, l) over all"
        + " streets at j, where l is the other end; and for each street at j, with the other end l, the greatest belief in"
        + " (k, l) over all streets at i, where k is the other end")
    private static void promise15GreatestOfStreets() {
        answers(laid("r10;n1;a0,0,0;a0,10,0;a0,7,0;b0,0,0;b0,9,0;s0,1,0;s2,0,0;t1,0,0;"),
                "belief(0, 0) = 44864; belief(0, 1) = 11840; belief(1, 0) = 2816; belief(1, 1) = 38528; belief(2, 1) = 37760");
        answers(laid("r10;n1;b0,0,0;b0,10,0;b0,7,0;a0,0,0;a0,9,0;t0,1,0;t2,0,0;s1,0,0;"),
                "belief(0, 0) = 44864; belief(1, 0) = 11840; belief(0, 1) = 2816; belief(1, 1) = 38528; belief(1, 2) = 37760");
    }

    @Says(promise = 15, value = "All beliefs on the right are those before the round, and everything is computed exactly.")
    private static void promise15Exactly() {
        int[] want = {34304, 30784, 27736, 24927};
        for (int rounds = 0; rounds <= 3; rounds++) {
            answers(laid("r10;n" + rounds + ";a0,9,0;a0,1,5;a0,4,7;b0,7,3;b0,6,5;s1,0,0;s2,0,0;s2,1,0;t1,0,0;"),
                    "belief(0, 1) = " + want[rounds]);
        }
        // The greatest beliefs of all: seven streets at both, all in one place.
        String star = "a0,9,9;".repeat(8) + "b0,9,9;".repeat(8) + "s0,1,0;s0,2,0;s0,3,0;s0,4,0;s0,5,0;s0,6,0;s0,7,0;";
        String joins = "";
        for (int v = 1; v < 8; v++) {
            joins += "join(1, 0, " + v + ", 0);";
        }
        answers(laid("r20;n3;" + star).then(joins), "belief(0, 0) = 587064; belief(1, 1) = 221352; belief(0, 1) = 692928;"
                + "belief(1, 0) = 692928; tune(1, 0) = 3; belief(0, 0) = 205312");
    }

    @Says(promise = 15, value = ORDER)
    private static void promise15BadBeforeNone() {
        refused(BAD, "belief(5, 6); belief(6, 5); belief(-1, 4); belief(0, -1)", INITIAL, BUSY);
        refused(BAD, "belief(8, 0); belief(6, 8)", CROWDED);
    }

    // ---- promise 16: match

    @Says(promise = 16, value = {"the survey of the meeting, 0 or 1", "BAD if there is no such survey or meeting.",
        UNCHANGED})
    private static void promise16RefusesSurveysAndMeetings() {
        refusesMeetings("match(S, I)");
        answers(UNEVEN, "match(0, 0) = 0; match(0, 1) = BAD; match(1, 1) = NONE; match(1, 2) = BAD");
        answers(laid(EIGHT + EIGHT_OTHERS), "match(0, 0) = 0; match(0, 7) = 7; match(1, 7) = 7; match(1, 0) = 0;"
                + "match(0, 8) = BAD; match(1, 8) = BAD");
    }

    @Says(promise = 16, value = {"Returns the meeting of the other survey with which it is matched",
        "Then, as long as there is a pair of two meetings that are not matched yet"})
    private static void promise16Matches() {
        answers(laid("r2;n0;a0,0,0;a0,9,9;a0,20,20;b0,9,9;b0,20,20;b0,0,0;"), "match(0, 0) = 2; match(0, 1) = 0;"
                + "match(0, 2) = 1; match(1, 0) = 1; match(1, 1) = 2; match(1, 2) = 0");
        answers(laid("r1;n0;a0,0,0;b0,0,1;"), "match(0, 0) = 0; match(1, 0) = 0");
        // 3 is nearer to 2 than to 4, and takes 4 all the same when 2 is taken.
        answers(laid("n0;a0,1,0;a0,3,0;b0,3,0;b0,9,0;"), "match(0, 0) = 1; match(0, 1) = 0");
    }

    @Says(promise = 16, value = {"Returns the match of a meeting.", "the meeting"})
    private static void promise16MatchOfEach() {
        answers(INITIAL, "match(0, 0) = 0; match(0, 1) = 1; match(0, 2) = 2; match(0, 3) = 3; match(0, 4) = 4;"
                + "match(0, 5) = NONE; match(1, 0) = 0; match(1, 1) = 1; match(1, 2) = 2; match(1, 3) = 3; match(1, 4) = 4;"
                + "match(1, 5) = NONE");
        // Moved to where 3 was, 5 of survey 0 takes its match as it is nearer.
        answers(INITIAL, "move(0, 5, 9, 28) = 1; match(0, 5) = NONE; move(0, 3, 60, 60) = 1; match(0, 5) = 3;"
                + "match(1, 3) = 5; match(0, 3) = NONE");
        answers(laid("n0;a0,5,5;a0,50,50;a0,30,30;b0,30,31;b0,5,6;b0,50,51;"), "match(0, 0) = 1; match(0, 1) = 2;"
                + "match(0, 2) = 0; match(1, 0) = 2; match(1, 1) = 0; match(1, 2) = 1");
    }

    @Says(promise = 16, value = {"NONE if it is not matched", UNCHANGED})
    private static void promise16NotMatched() {
        refused(NONE, "match(0, 5); match(1, 5)", INITIAL, BUSY);
        refused(NONE, "match(0, 6); match(1, 6)", CROWDED);
        refused(NONE, "match(1, 1)", UNEVEN);
        refused(NONE, "match(0, 0); match(1, 0)", LEAST.then("move(0, 0, 0, 0)"));
        answers(laid("n0;a0,1,0;a0,3,0;b0,3,0;"), "match(0, 0) = NONE; match(0, 1) = 0; match(1, 0) = 1");
        answers(laid(EIGHT + "b0,1,1;"), "match(0, 0) = 0; match(0, 1) = NONE; match(0, 7) = NONE; match(1, 0) = 0");
        answers(laid("a0,1,1;" + EIGHT_OTHERS), "match(1, 0) = 0; match(1, 1) = NONE; match(1, 7) = NONE; match(0, 0) = 0");
    }

    @Says(promise = 16, value = {"the pair of such meetings with the greatest belief is matched", "of several the one with the"
        + " smallest i, and then the smallest j."})
    private static void promise16SmallestOfEqual() {
        answers(laid("n0;a0,5,5;a0,5,5;b0,5,5;b0,5,5;"), "match(0, 0) = 0; match(0, 1) = 1");
        answers(laid("n0;a0,10,10;b0,10,12;b0,10,8;"), "match(0, 0) = 0; match(1, 1) = NONE");
        answers(laid("n0;a0,10,10;b0,10,13;b0,10,8;b0,10,12;"), "match(0, 0) = 1; match(1, 2) = NONE");
        answers(laid("n0;a0,10,12;a0,10,8;b0,10,10;"), "match(0, 0) = 0; match(0, 1) = NONE");
        answers(laid("n0;a0,10,13;a0,10,12;a0,10,8;b0,10,10;"), "match(1, 0) = 1; match(0, 2) = NONE");
        answers(laid("n0;r5;a0,10,10;a0,20,20;b0,20,21;b0,10,11;"), "match(0, 0) = 1; match(0, 1) = 0");
        // One unit of belief more is worth more than the smaller number.
        answers(laid("n0;a0,10,10;b0,12,11;b0,12,10;"), "match(0, 0) = 1");
        answers(laid("n0;a0,12,11;a0,12,10;b0,10,10;"), "match(1, 0) = 1");
        answers(laid("n3;" + EIGHT + EIGHT_OTHERS), "match(0, 3) = 3; match(1, 6) = 6; match(0, 7) = 7");
    }

    @Says(promise = 16, value = ORDER)
    private static void promise16BadBeforeNone() {
        refused(BAD, "match(0, 6); match(1, 6); match(2, 5); match(-1, 5)", INITIAL);
        refused(BAD, "match(0, 8); match(1, 8); match(2, 6); match(-1, 6)", CROWDED);
    }

    // ---- promise 17: told

    /** Survey 0 has the meetings 0 and 1, which are matched with 0 and 1 of survey 1. */
    private static final String ENDS = "r2;n0;a0,0,0;a0,60,0;b0,0,0;b0,60,0;b0,20,0;b0,40,0;b0,20,9;b0,40,9;";
    private static final Town THREE_STREETS = laid(ENDS + "s0,1,0;t0,4,0;t4,5,0;t5,1,0;t2,3,0;");

    @Says(promise = 17, value = {"the street", "BAD if there is no such street", UNCHANGED})
    private static void promise17RefusesStreets() {
        for (Town town : ALL) {
            refused(BAD, beyond("told(?, -1)", 0, streets(town, 0) - 1), town);
            refused(BAD, beyond("told(?, 0)", 0, streets(town, 0) - 1), town);
        }
        answers(UNEVEN, "told(0, -1) = BAD; told(0, 0) = BAD");
        answers(CROWDED, "told(0, -1) = 1; told(7, -1) = 1; told(8, -1) = BAD; cut(0, 7) = 7; told(7, -1) = BAD");
    }

    @Says(promise = 17, value = {"Tells how a street of survey 0 is expressed.", "the street", "Returns the value;"})
    private static void promise17TellsEach() {
        int[][] ways = {{0, 1}, {1, 2}, {0, 3}, {1, 5, 4}, {3, 4}, {}};
        TwoSurveys x = new TwoSurveys();
        for (int s = 0; s < 6; s++) {
            for (int k = -1; k <= 3; k++) {
                int want = ways[s].length == 0 || k >= ways[s].length ? NONE : k < 0 ? ways[s].length - 1 : ways[s][k];
                due("told(" + s + ", " + k + ")", x.told(s, k), want);
            }
        }
    }

    @Says(promise = 17, value = {"-1 for the number of streets of the way, or an index from 0 for the k-th meeting of survey 1"
        + " on the way (0 for the match of u)", "or k is less than -1", UNCHANGED})
    private static void promise17TakesKFromMinus1() {
        refused(BAD, "told(0, -2); told(0, -3); told(0, -257); told(0, -65537); told(0, -2147483648); told(5, -2)",
                INITIAL, BUSY, CROWDED);
        answers(INITIAL, "told(3, -1) = 2; told(3, 0) = 1; told(3, 1) = 5; told(3, 2) = 4; told(0, -1) = 1;"
                + "told(0, 0) = 0; told(0, 1) = 1");
        answers(THREE_STREETS, "told(0, -1) = 3; told(0, 0) = 0; told(0, 1) = 4; told(0, 2) = 5; told(0, 3) = 1");
    }

    @Says(promise = 17, value = {"NONE if it is not expressed, or the way has no k-th meeting.", UNCHANGED})
    private static void promise17EndOfTheWay() {
        refused(NONE, "told(0, 2); told(0, 3); told(0, 4); told(0, 256); told(0, 65536); told(0, 2147483647)", INITIAL,
                CROWDED);
        refused(NONE, "told(3, 3); told(3, 4); told(3, 2147483647)", INITIAL, BUSY);
        refused(NONE, "told(0, 4); told(0, 5); told(0, 2147483647)", THREE_STREETS);
    }

    @Says(promise = 17, value = {"NONE if it is not expressed", "A street of survey 0 both of whose ends are matched is"
        + " expressed if there is a way of 1 to 3 streets of survey 1 from the match of u to the match of v."})
    private static void promise17WaysOf1To3Streets() {
        answers(laid(ENDS + "s0,1,0;t0,1,0;"), "told(0, -1) = 1; told(0, 0) = 0; told(0, 1) = 1; told(0, 2) = NONE");
        answers(laid(ENDS + "s1,0,0;t0,1,0;"), "told(0, -1) = 1; told(0, 0) = 1; told(0, 1) = 0; told(0, 2) = NONE");
        answers(laid(ENDS + "s0,1,0;t5,0,0;t5,1,0;"), "told(0, -1) = 2; told(0, 1) = 5; told(0, 2) = 1; told(0, 3) = NONE");
        answers(laid(ENDS + "s1,0,0;t0,4,0;t5,4,0;t5,1,0;"), "told(0, -1) = 3; told(0, 0) = 1; told(0, 1) = 5;"
                + "told(0, 2) = 4; told(0, 3) = 0; told(0, 4) = NONE");
        refused(NONE, "told(0, -1); told(0, 0); told(0, 1)", laid(ENDS + "s0,1,0;t0,2,0;t2,3,0;t3,4,0;t4,1,0;"),
                laid(ENDS + "s0,1,0;"), laid(ENDS + "s0,1,0;t0,2,0;t3,1,0;t4,5,0;"));
        // Without a match of u, of v, of both.
        String one = "r2;n0;a0,0,0;a0,60,0;b0,0,0;b0,30,0;t0,1,0;";
        refused(NONE, "told(0, -1); told(0, 0); told(0, 1)", laid(one + "s0,1,0;"), laid(one + "s1,0,0;"),
                laid("r2;n0;a0,9,9;a0,60,0;b0,0,0;b0,30,0;t0,1,0;s0,1,0;"));
        refused(NONE, "told(5, -1); told(5, 0)", INITIAL, BUSY);
    }

    @Says(promise = 17, value = {"It is expressed by the way with the fewest streets",
        "Tells how a street of survey 0 is expressed."})
    private static void promise17FewestStreets() {
        answers(laid(ENDS + "s0,1,0;t0,2,0;t2,1,0;t0,1,0;"), "told(0, -1) = 1; told(0, 1) = 1");
        answers(laid(ENDS + "s0,1,0;t0,2,0;t2,3,0;t3,1,0;t0,1,0;"), "told(0, -1) = 1; told(0, 1) = 1");
        answers(laid(ENDS + "s0,1,0;t0,2,0;t2,3,0;t3,1,0;t0,5,0;t5,1,0;"), "told(0, -1) = 2; told(0, 1) = 5; told(0, 2) = 1;"
                + "told(0, 3) = NONE; cut(1, 4) = 4; told(0, -1) = 3; told(0, 1) = 2; cut(1, 1) = 3; told(0, -1) = NONE");
    }

    @Says(promise = 17, value = "of several by the first one in lexicographic order of the meetings through which it goes.")
    private static void promise17FirstOfSeveralWays() {
        answers(laid(ENDS + "s0,1,0;t0,5,0;t5,1,0;t0,3,0;t3,1,0;t0,4,0;t4,1,0;"), "told(0, -1) = 2; told(0, 1) = 3");
        answers(laid(ENDS + "s0,1,0;t0,3,0;t0,2,0;t3,5,0;t2,5,0;t2,4,0;t4,1,0;t5,1,0;"),
                "told(0, -1) = 3; told(0, 1) = 2; told(0, 2) = 4; cut(1, 4) = 6; told(0, 2) = 5; cut(1, 3) = 5;"
                + "told(0, 1) = 3; told(0, 2) = 5");
        answers(laid(ENDS + "s1,0,0;t0,3,0;t0,2,0;t3,5,0;t2,5,0;t2,4,0;t4,1,0;t5,1,0;"),
                "told(0, -1) = 3; told(0, 0) = 1; told(0, 1) = 4; told(0, 2) = 2; told(0, 3) = 0");
        // The ends are matched with 7 and 6, so that each of the others is between; it goes through 0 first.
        String last = "r2;n0;a0,0,0;a0,60,0;" + "b0,30,9;".repeat(6) + "b0,60,0;b0,0,0;s0,1,0;";
        answers(laid(last + "t7,5,0;t5,6,0;t7,0,0;t0,6,0;"), "told(0, 0) = 7; told(0, 1) = 0; told(0, 2) = 6; cut(1, 2) = 3;"
                + "told(0, 1) = 5");
        answers(laid(last + "t7,5,0;t5,0,0;t0,6,0;t5,1,0;t1,6,0;"), "told(0, -1) = 3; told(0, 1) = 5; told(0, 2) = 0;"
                + "told(0, 3) = 6; cut(1, 1) = 4; told(0, 2) = 1");
        answers(laid(last + "t7,5,0;t5,1,0;t1,6,0;t7,0,0;t0,5,0;t5,6,0;"), "told(0, -1) = 2; cut(1, 5) = 5; told(0, -1) = 3;"
                + "told(0, 1) = 5; told(0, 2) = 1; join(1, 0, 1, 0) = 6; told(0, 1) = 0; told(0, 2) = 1");
    }

    @Says(promise = 17, value = ORDER)
    private static void promise17BadBeforeNone() {
        refused(BAD, "told(5, -2); told(6, 9); told(6, -2); told(-1, 9)", INITIAL, BUSY);
        refused(BAD, "told(0, 9); told(0, -2)", LEAST, UNEVEN);
    }

    // ---- promise 18: named

    @Says(promise = 18, value = {"the street", "BAD if there is no such street.", UNCHANGED})
    private static void promise18RefusesStreets() {
        for (Town town : ALL) {
            refused(BAD, beyond("named(?)", 0, streets(town, 0) - 1), town);
        }
        answers(UNEVEN, "named(0) = BAD");
        answers(CROWDED, "named(0) = 3; named(7) = 9; named(8) = BAD; cut(0, 0) = 7; named(7) = BAD; named(6) = 9");
    }

    @Says(promise = 18, value = {"the street", "Returns the name;"})
    private static void promise18NamesEach() {
        answers(INITIAL, "named(0) = 3; named(1) = 6; named(2) = 4; named(3) = 7; named(4) = 5; named(5) = 0");
        answers(INITIAL.then("name(1, 1, 8); name(1, 3, 2); name(0, 4, 0)"), "named(0) = 3; named(1) = 8; named(2) = 4;"
                + "named(3) = 0; named(4) = 5; name(1, 4, 2) = 7; named(3) = 2");
    }

    @Says(promise = 18, value = "Returns the name that a street of survey 0 gets: its own name if this is not 0;")
    private static void promise18OwnName() {
        for (int own = 1; own <= 9; own++) {
            answers(laid(ENDS + "s0,1," + own + ";t0,1,5;"), "named(0) = " + own);
            answers(laid(ENDS + "s0,1," + own + ";"), "named(0) = " + own);
        }
        answers(laid(ENDS + "s0,1,1;t0,1,5;"), "name(0, 0, 0) = 1; named(0) = 5; undo() = 0; named(0) = 1");
    }

    @Says(promise = 18, value = "otherwise the name of the streets by which it is expressed, if all of them have the same name")
    private static void promise18NameOfTheWay() {
        for (int name = 1; name <= 9; name++) {
            answers(laid(ENDS + "s0,1,0;t0,1," + name + ";"), "named(0) = " + name);
        }
        answers(laid(ENDS + "s0,1,0;t0,2,5;t2,1,5;"), "named(0) = 5");
        answers(laid(ENDS + "s1,0,0;t0,2,9;t2,3,9;t3,1,9;"), "named(0) = 9");
        // A street that is not on the way has no say.
        answers(laid(ENDS + "s0,1,0;t0,1,4;t0,2,5;t2,1,5;"), "named(0) = 4");
        answers(laid(ENDS + "s0,1,0;t0,2,5;t2,1,5;t2,3,6;t3,1,7;"), "named(0) = 5");
    }

    @Says(promise = 18, value = "otherwise 0.")
    private static void promise18NoName() {
        answers(laid(ENDS + "s0,1,0;t0,2,5;t2,1,6;"), "named(0) = 0");
        answers(laid(ENDS + "s0,1,0;t0,2,8;t2,3,9;t3,1,9;"), "named(0) = 0");
        answers(laid(ENDS + "s0,1,0;t0,2,9;t2,3,8;t3,1,9;"), "named(0) = 0");
        answers(laid(ENDS + "s0,1,0;t0,2,9;t2,3,9;t3,1,8;"), "named(0) = 0");
        answers(laid(ENDS + "s0,1,0;t0,2,0;t2,1,6;"), "named(0) = 0");
        answers(laid(ENDS + "s0,1,0;t0,2,6;t2,1,0;"), "named(0) = 0");
        answers(laid(ENDS + "s0,1,0;t0,1,0;"), "named(0) = 0");
        answers(laid(ENDS + "s0,1,0;t0,2,0;t2,1,0;"), "named(0) = 0");
        answers(laid(ENDS + "s0,1,0;"), "named(0) = 0");
        answers(laid(ENDS + "s0,1,0;t0,2,9;t2,3,9;t3,4,9;t4,1,9;"), "named(0) = 0");
        answers(INITIAL, "named(5) = 0");
    }

    // ---- promise 19: comes

    /** comes(i, 0) to comes(i, 3), the even ones without EVEN. */
    private static void comes(String text, int i, int topX, int bottomX, int topY, int bottomY) {
        answers(laid(text), "comes(" + i + ", 0) = " + (EVEN + topX) + "; comes(" + i + ", 1) = " + bottomX + "; comes(" + i
                + ", 2) = " + (EVEN + topY) + "; comes(" + i + ", 3) = " + bottomY);
    }

    private static final String CORNER = "r2;n0;a0,0,0;a0,10,0;a0,0,10;b0,0,0;b0,12,0;b0,0,11;";

    @Says(promise = 19, value = {"BAD if there is no such meeting or what is out of range.", "the meeting p", UNCHANGED})
    private static void promise19RefusesMeetings() {
        for (Town town : ALL) {
            refused(BAD, beyond("comes(?, 0)", 0, meetings(town, 0) - 1), town);
            refused(BAD, beyond("comes(?, 3)", 0, meetings(town, 0) - 1), town);
        }
        answers(UNEVEN, "comes(0, 0) = 100005; comes(1, 0) = BAD");
        answers(laid(EIGHT + "b0,2,3;"), "comes(7, 0) = 100002; comes(7, 2) = 100003; comes(8, 0) = BAD");
    }

    @Says(promise = 19, value = "Returns the value;")
    private static void promise19EachComes() {
        int[][] places = {{8, 7}, {22, 5}, {33, 11}, {9, 28}, {24, 27}, {39, 29}};
        for (int i = 0; i < 6; i++) {
            comes(START, i, places[i][0], 1, places[i][1], 1);
        }
    }

    @Says(promise = 19, value = {"0: the numerator of x, plus EVEN; 1: the denominator of x; 2: the numerator of y, plus EVEN;"
        + " 3: the denominator of y", "BAD if there is no such meeting or what is out of range.", UNCHANGED})
    private static void promise19RefusesWhat() {
        refused(BAD, beyond("comes(0, ?)", 0, 3));
        refused(BAD, beyond("comes(5, ?)", 0, 3), INITIAL, BUSY, CROWDED);
        comes(CORNER + "a0,3,3;", 3, 18, 5, 33, 10);
    }

    @Says(promise = 19, value = "as fractions in lowest terms with a positive denominator (0 is 0/1)")
    private static void promise19LowestTerms() {
        comes(CORNER + "a0,3,3;", 0, 0, 1, 0, 1);
        comes(CORNER + "a0,5,5;", 3, 6, 1, 11, 2);
        comes(CORNER + "a0,5,0;", 3, 6, 1, 0, 1);
        comes(CORNER + "a0,0,5;", 3, 0, 1, 11, 2);
        comes(CORNER + "a0,1,1;", 3, 6, 5, 11, 10);
        // Clockwise corners have a negative area, and the denominator is positive all the same.
        comes("r2;n0;a0,0,10;a0,10,0;a0,0,0;b0,0,11;b0,12,0;b0,0,0;a0,3,3;", 3, 18, 5, 33, 10);
        // Below 0, and beyond 60.
        comes("r20;n0;a0,20,0;a0,0,60;b0,0,0;", 1, -20, 1, 60, 1);
        comes("r20;n0;a0,0,20;a0,60,0;b0,0,0;", 1, 60, 1, -20, 1);
        comes("r20;n0;a0,40,0;a0,60,60;b0,60,0;", 1, 80, 1, 60, 1);
        comes("r20;n0;a0,0,40;a0,60,60;b0,0,60;", 1, 60, 1, 80, 1);
        comes("r1;n0;a0,1,1;a0,1,30;b0,0,1;", 1, 0, 1, 30, 1);
        // The largest triangle, and numbers that have no common divisor with it.
        comes("r1;n0;a0,0,0;a0,60,0;a0,0,60;b0,0,1;b0,59,0;b0,0,60;a0,7,11;", 3, 413, 60, 117, 10);
    }

    @Says(promise = 19, value = "Tells to which position a meeting p of survey 0 is transferred. If it is matched, to the position"
        + " of its match.")
    private static void promise19ToItsMatch() {
        comes(CORNER, 1, 12, 1, 0, 1);
        comes("r20;n0;a0,60,60;b0,40,60;", 0, 40, 1, 60, 1);
        // It would lie in a triangle of the others too.
        comes(CORNER + "a0,3,3;b0,4,4;", 3, 4, 1, 4, 1);
    }

    @Says(promise = 19, value = "Otherwise consider all triangles of three matched meetings of survey 0 that are not on one"
        + " line, in which p lies (inside or on an edge).")
    private static void promise19InsideOrOnAnEdge() {
        comes(CORNER + "a0,5,5;", 3, 6, 1, 11, 2);
        comes(CORNER + "a0,4,6;", 3, 24, 5, 33, 5);
        comes(CORNER + "a0,5,0;", 3, 6, 1, 0, 1);
        comes(CORNER + "a0,0,9;", 3, 0, 1, 99, 10);
        comes(CORNER + "a0,10,0;", 3, 12, 1, 0, 1);
        // Beyond an edge by one it follows the nearest one.
        comes(CORNER + "a0,5,6;", 3, 5, 1, 7, 1);
        comes(CORNER + "a0,6,5;", 3, 8, 1, 5, 1);
        comes("r1;n0;a0,0,0;a0,10,0;a0,0,10;b0,0,0;b0,9,0;b0,0,10;a0,10,0;", 3, 9, 1, 0, 1);
        comes("r1;n0;a0,0,0;a0,10,0;a0,0,10;b0,0,0;b0,9,0;b0,0,10;a0,11,0;", 3, 10, 1, 0, 1);
        comes("r2;n0;a0,1,1;a0,11,1;a0,1,11;b0,1,1;b0,13,1;b0,1,12;a0,8,0;", 3, 10, 1, 0, 1);
        comes("r2;n0;a0,1,1;a0,11,1;a0,1,11;b0,1,1;b0,13,1;b0,1,12;a0,0,8;", 3, 0, 1, 9, 1);
        // Three on one line are no triangle, even if p is between them.
        String line = "r2;n0;a0,0,0;a0,10,0;a0,20,0;b0,0,0;b0,11,0;b0,20,2;";
        comes(line + "a0,6,0;", 3, 7, 1, 0, 1);
        comes(line + "a0,16,0;", 3, 16, 1, 2, 1);
        comes("r2;n0;a0,5,5;a0,5,5;a0,5,5;b0,6,5;b0,6,5;b0,6,5;a0,9,9;", 3, 10, 1, 9, 1);
        // Neither do they end the search.
        comes("r2;n0;a0,0,0;a0,10,0;a0,0,10;a0,20,0;b0,0,0;b0,12,0;b0,0,10;b0,20,0;a0,5,0;", 4, 6, 1, 0, 1);
        // A corner that is not matched makes no triangle.
        comes("r2;n0;a0,60,60;a0,0,0;a0,10,0;a0,0,10;a0,3,3;b0,0,0;b0,12,0;b0,0,11;", 4, 18, 5, 33, 10);
        comes("r2;n0;a0,0,0;a0,10,0;a0,5,9;b0,2,0;b0,10,1;a0,5,1;", 3, 7, 1, 1, 1);
    }

    @Says(promise = 19, value = "Of those with the smallest area take the first one in lexicographic order of its meetings in"
        + " ascending order")
    private static void promise19SmallestArea() {
        String small = "r2;n0;a0,0,0;a0,60,0;a0,0,60;a0,10,0;b0,0,0;b0,60,0;b0,0,60;b0,12,0;";
        comes(small + "a0,1,1;", 4, 6, 5, 1, 1);
        // The four triangles of the square have one area.
        String square = "r2;n0;a0,0,0;a0,10,0;a0,10,10;a0,0,10;b0,0,0;b0,12,0;b0,10,10;b0,0,10;";
        comes(square + "a0,5,5;", 4, 5, 1, 5, 1);
        comes(square + "a0,6,3;", 4, 33, 5, 3, 1);
        comes(square + "a0,4,3;", 4, 21, 5, 3, 1);
        comes(square + "a0,8,6;", 4, 42, 5, 6, 1);
        comes(square + "a0,4,5;", 4, 24, 5, 5, 1);
        comes(square + "a0,4,8;", 4, 4, 1, 8, 1);
    }

    @Says(promise = 19, value = "p has the same barycentric coordinates in the triangle of their matches as in this triangle"
        + " (each corner has the weight of the area of the triangle of p and the two other corners).")
    private static void promise19Weights() {
        // Each corner's match alone is moved.
        String of = "r2;n0;a0,0,0;a0,10,0;a0,0,10;";
        comes(of + "b0,1,0;b0,10,0;b0,0,10;a0,3,2;", 3, 7, 2, 2, 1);
        comes(of + "b0,0,0;b0,11,0;b0,0,10;a0,3,2;", 3, 33, 10, 2, 1);
        comes(of + "b0,0,0;b0,10,0;b0,0,11;a0,3,2;", 3, 3, 1, 11, 5);
        // The numbers of the matches are other ones than those of the corners.
        comes("r2;n0;a0,0,0;a0,10,0;a0,0,10;a0,3,3;b0,0,11;b0,60,60;b0,60,50;b0,0,0;b0,12,0;", 3, 18, 5, 33, 10);
    }

    @Says(promise = 19, value = "If there is no such triangle, p is moved by the same vector as the matched meeting of survey 0"
        + " that is nearest to it (by squared distance, the smallest number of several) from its position to that of its match.")
    private static void promise19NearestMatched() {
        comes("r2;n0;a0,0,0;a0,10,0;a0,5,9;b0,2,0;b0,10,1;", 2, 7, 1, 9, 1);
        comes("r2;n0;a0,10,0;a0,0,0;a0,5,9;b0,2,0;b0,10,1;", 2, 5, 1, 10, 1);
        comes("r2;n0;a0,0,0;a0,10,0;a0,6,9;b0,2,0;b0,10,1;", 2, 6, 1, 10, 1);
        comes("r2;n0;a0,0,0;a0,10,0;a0,4,9;b0,2,0;b0,10,1;", 2, 6, 1, 9, 1);
        // By the squared distance 5, 9 is nearer to p than 0, 11; by the sum of both it is not.
        comes("r2;n0;a0,30,11;a0,35,9;a0,30,0;b0,31,11;b0,35,8;", 2, 30, 1, -1, 1);
        // The nearest of all is not matched, and the matches have other numbers.
        comes("r2;n0;a0,30,30;a0,0,0;a0,9,9;b0,1,0;", 2, 10, 1, 9, 1);
        comes("r2;n0;a0,0,0;a0,5,8;a0,5,9;b0,2,0;", 2, 7, 1, 9, 1);
    }

    @Says(promise = 19, value = "If no meeting is matched, p stays where it is.")
    private static void promise19Stays() {
        comes("r2;n0;a0,9,0;b0,60,60;", 0, 9, 1, 0, 1);
        comes("r2;n0;a0,0,60;a0,60,0;a0,0,0;a0,60,60;a0,20,20;b0,30,30;", 4, 20, 1, 20, 1);
        comes("r2;n0;a0,60,60;b0,0,0;", 0, 60, 1, 60, 1);
        comes("r2;n0;a0,0,0;b0,60,60;", 0, 0, 1, 0, 1);
    }

    // ---- promise 20: whole

    @Says(promise = 20, value = {"BAD if what is not 0 to 5.", UNCHANGED})
    private static void promise20RefusesWhat() {
        refused(BAD, beyond("whole(?)", 0, 5));
        answers(INITIAL, "whole(0) = 5; whole(1) = 0; whole(2) = 1; whole(3) = 32; whole(4) = 32; whole(5) = 5");
    }

    @Says(promise = 20, value = {"Returns a number of the whole matching.", "Returns the value;"})
    private static void promise20EachNumber() {
        answers(LEAST, "whole(0) = 1; whole(1) = 0; whole(2) = 1; whole(3) = 0; whole(4) = 0; whole(5) = 0");
        answers(UNEVEN, "whole(0) = 1; whole(1) = 0; whole(2) = 1; whole(3) = 0; whole(4) = 2; whole(5) = 0");
        answers(BUSY, "whole(0) = 5; whole(1) = 1; whole(2) = 1; whole(3) = 32; whole(4) = 32; whole(5) = 5");
        answers(CROWDED, "whole(0) = 7; whole(1) = 0; whole(2) = 1; whole(3) = 64; whole(4) = 64; whole(5) = 8");
        answers(laid("r20;" + SHEET), "whole(0) = 3; whole(1) = 0; whole(2) = 1; whole(3) = 8; whole(4) = 0; whole(5) = 1");
    }

    @Says(promise = 20, value = "0: the number of matched pairs;")
    private static void promise20Pairs() {
        answers(laid(EIGHT + EIGHT_OTHERS), "whole(0) = 8");
        answers(laid(EIGHT + "b0,1,1;"), "whole(0) = 1");
        answers(laid("a0,1,1;" + EIGHT_OTHERS), "whole(0) = 1");
        answers(laid("r1;a0,1,1;b0,2,2;"), "whole(0) = 0");
        answers(laid("r1;" + EIGHT + "b0,9,9;".repeat(8)), "whole(0) = 0");
    }

    @Says(promise = 20, value = "1: the number of triples of matched meetings of survey 0 that are not on one line and whose"
        + " matches have the opposite orientation (clockwise and counterclockwise);")
    private static void promise20Turned() {
        String[] ys = {"6;4;1", "4;6;1", "5;4;0", "6;5;0", "5;5;0", "4;5;0", "5;6;0", "6;7;0", "4;3;0", "6;6;0"};
        for (String each : ys) {
            String[] parts = each.split(";");
            answers(laid("r3;n0;a0,0,5;a0,20,5;a0,10," + parts[0] + ";b0,0,5;b0,20,5;b0,10," + parts[1] + ";"),
                    "whole(1) = " + parts[2]);
            answers(laid("r3;n0;a0,10," + parts[0] + ";a0,0,5;a0,20,5;b0,20,5;b0,0,5;b0,10," + parts[1] + ";"),
                    "whole(1) = " + parts[2]);
        }
        answers(laid("r3;n0;a0,0,5;a0,20,5;b0,0,5;b0,20,5;"), "whole(1) = 0");
        answers(laid("r3;n0;a0,0,5;a0,20,5;a0,10,6;b0,0,5;b0,20,5;"), "whole(1) = 0");
        answers(laid("r3;n0;a0,0,5;a0,20,5;a0,10,6;a0,11,6;b0,0,5;b0,20,5;b0,10,4;b0,12,4;"), "whole(1) = 4");
        // Survey 0 has more meetings, and the matches other numbers, than the other.
        answers(laid("r3;n0;a0,60,60;a0,0,5;a0,20,5;a0,10,6;b0,0,5;b0,20,5;b0,10,4;"), "whole(1) = 1");
        answers(laid("r3;n0;a0,0,5;a0,20,5;a0,10,6;b0,60,60;b0,10,4;b0,0,5;b0,20,5;"), "whole(1) = 1");
        answers(laid("r3;n0;a0,40,40;a0,0,5;a0,20,5;a0,10,8;b0,10,7;b0,0,5;b0,20,5;"), "whole(1) = 0");
        answers(laid("r3;n0;a0,10,8;a0,40,40;a0,0,5;a0,20,5;b0,20,5;b0,10,7;b0,0,5;"), "whole(1) = 0");
        // The smallest triangles that there are.
        answers(laid("r1;n0;a0,0,0;a0,20,19;a0,39,37;b0,0,0;b0,20,18;b0,39,37;"), "whole(1) = 1");
        answers(laid("r1;n0;a0,0,0;a0,20,18;a0,39,37;b0,0,0;b0,20,19;b0,39,37;"), "whole(1) = 1");
        answers(laid("r1;n0;a0,39,37;a0,20,19;a0,0,0;b0,39,37;b0,20,18;b0,0,0;"), "whole(1) = 1");
        answers(laid("r1;n0;a0,39,37;a0,20,18;a0,0,0;b0,39,37;b0,20,19;b0,0,0;"), "whole(1) = 1");
    }

    @Says(promise = 20, value = "2: 1 if the same pairs would be matched with both surveys exchanged (so that of several pairs"
        + " with the greatest belief the one with the smallest j, and then the smallest i, is taken), else 0;")
    private static void promise20Exchanged() {
        // It can't be 0: in either order the smallest j of one belief goes to the smallest i that has a pair with it.
        for (String text : new String[] {"r1;a0,1,1;b0,2,2;", EIGHT + EIGHT_OTHERS, "n0;a0,5,5;a0,5,5;b0,5,5;b0,5,5;",
            "n0;a0,10,12;a0,10,8;b0,10,10;", "n0;a0,10,10;b0,10,12;b0,10,8;", "r2;n0;a0,10,10;a0,13,10;b0,11,10;b0,12,10;",
            "r2;n0;a0,12,10;a0,10,10;b0,13,10;b0,11,10;", "n0;a0,1,0;a0,3,0;b0,3,0;b0,9,0;"}) {
            answers(laid(text), "whole(2) = 1");
        }
    }

    @Says(promise = 20, value = {"3: the set of meetings of survey 0 that are not matched", "Sets of meetings are bit masks."})
    private static void promise20NotMatchedOfSurvey0() {
        answers(laid("r1;" + EIGHT + "b0,9,9;".repeat(8)), "whole(3) = 255");
        answers(laid(EIGHT + EIGHT_OTHERS), "whole(3) = 0");
        answers(laid(EIGHT + "b0,1,1;"), "whole(3) = 254");
        answers(laid("r1;a0,1,1;b0,2,2;"), "whole(3) = 1");
        answers(laid("r1;a0,1,1;a0,9,9;a0,1,1;b0,9,9;"), "whole(3) = 5");
        answers(laid("r1;" + "a0,9,9;".repeat(7) + "a0,1,1;b0,1,1;"), "whole(3) = 127");
    }

    @Says(promise = 20, value = {"4: the set of meetings of survey 1 that are not matched", "Sets of meetings are bit masks."})
    private static void promise20NotMatchedOfSurvey1() {
        answers(laid("r1;" + EIGHT + "b0,9,9;".repeat(8)), "whole(4) = 255");
        answers(laid(EIGHT + EIGHT_OTHERS), "whole(4) = 0");
        answers(laid("a0,1,1;" + EIGHT_OTHERS), "whole(4) = 254");
        answers(laid("r1;a0,1,1;b0,2,2;"), "whole(4) = 1");
        answers(laid("r1;b0,1,1;b0,9,9;b0,1,1;a0,9,9;"), "whole(4) = 5; whole(3) = 0");
        answers(laid("r1;" + "b0,9,9;".repeat(7) + "b0,1,1;a0,1,1;"), "whole(4) = 127");
    }

    @Says(promise = 20, value = "5: the number of streets of survey 0 that are expressed")
    private static void promise20Expressed() {
        String ways = "r2;n0;a0,0,0;a0,60,0;a0,30,9;a0,30,0;b0,0,0;b0,60,0;b0,30,0;s0,1,0;s0,3,0;s3,1,0;s1,2,0;";
        answers(laid(ways), "whole(5) = 0");
        answers(laid(ways + "t0,2,0;"), "whole(5) = 1");
        answers(laid(ways + "t0,2,0;t2,1,0;"), "whole(5) = 3; cut(0, 0) = 3; whole(5) = 2");
        answers(LEAST, "whole(5) = 0");
        answers(CROWDED, "whole(5) = 8");
    }

    // ---- promise 21: shelve

    @Says(promise = 21, value = {"the shelf, 0 to 2", "BAD if shelf or place is out of range", "There are three shelves",
        UNCHANGED})
    private static void promise21TakesShelves0To2() {
        refused(BAD, beyond("shelve(?, 0, 0)", 0, 2));
        refused(BAD, beyond("shelve(?, 0, 8)", 0, 2), INITIAL, BUSY, CROWDED);
        answers(INITIAL, "shelve(0, 0, 0) = 1; shelve(1, 0, 8) = 1; shelve(2, 0, 0) = 1; shelve(2, 0, 8) = 1; count(9) = 3;"
                + "shelf(0, 0) = 0; shelf(1, 0) = 8; shelf(2, 0) = 8");
    }

    @Says(promise = 21, value = {"the place, 0 to 3", "BAD if shelf or place is out of range", "with four places each",
        UNCHANGED})
    private static void promise21TakesPlaces0To3() {
        refused(BAD, beyond("shelve(0, ?, 0)", 0, 3));
        refused(BAD, beyond("shelve(1, ?, 8)", 0, 3), INITIAL, BUSY, CROWDED);
        refused(BAD, beyond("shelve(2, ?, 8)", 0, 3), INITIAL, BUSY, CROWDED);
        answers(INITIAL, "shelve(0, 0, 0) = 1; shelve(0, 3, 1) = 1; shelve(1, 0, 8) = 1; shelve(1, 3, 9) = 1;"
                + "shelve(2, 0, 2) = 1; shelve(2, 3, 10) = 1; count(9) = 6; shelf(0, 3) = 1; shelf(1, 0) = 8; shelf(1, 3) = 9;"
                + "shelf(2, 0) = 2; shelf(2, 3) = 10; shelf(0, 0) = 0");
    }

    @Says(promise = 21, value = {"0 to 7: this meeting of survey 0; 8 to 15: the street thing - 8 of survey 0", UNCHANGED})
    private static void promise21TakesThings0To15() {
        for (int shelf = 0; shelf < 3; shelf++) {
            refused(BAD, beyond("shelve(" + shelf + ", 0, ?)", 0, 15));
            refused(BAD, "shelve(" + shelf + ", 0, -2147483641); shelve(" + shelf + ", 0, -8)");
        }
        answers(CROWDED, "shelve(0, 0, 0) = 1; shelve(0, 1, 7) = 1; shelve(1, 0, 8) = 1; shelve(1, 1, 15) = 1;"
                + "shelve(2, 0, 0) = 1; shelve(2, 1, 7) = 1; shelve(2, 2, 8) = 1; shelve(2, 3, 15) = 1; shelve(2, 3, 16) = BAD;"
                + "shelf(2, 0) = 0; shelf(2, 1) = 7; shelf(2, 2) = 8; shelf(2, 3) = 15");
    }

    @Says(promise = 21, value = {"or there is no such thing now", UNCHANGED})
    private static void promise21TakesWhatIsThere() {
        refused(BAD, "shelve(0, 0, 6); shelve(0, 3, 7); shelve(2, 0, 6); shelve(2, 0, 7)", INITIAL, BUSY);
        refused(BAD, "shelve(1, 0, 14); shelve(1, 3, 15); shelve(2, 0, 14); shelve(2, 3, 15)", INITIAL, BUSY);
        refused(BAD, "shelve(0, 0, 1); shelve(2, 0, 1); shelve(1, 0, 8); shelve(2, 0, 8)", LEAST, UNEVEN);
        answers(INITIAL, "shelve(0, 0, 5) = 1; shelve(0, 0, 6) = BAD; shelve(1, 0, 13) = 1; shelve(1, 0, 14) = BAD;"
                + "join(0, 0, 2, 1) = 7; shelve(1, 0, 14) = 1; shelve(1, 1, 15) = BAD; undo() = 0; shelve(1, 1, 14) = BAD;"
                + "cut(0, 0) = 5; shelve(1, 1, 13) = BAD; shelve(1, 1, 12) = 1; shelf(1, 0) = 14");
        answers(LEAST, "shelve(0, 0, 0) = 1; shelve(2, 3, 0) = 1; shelve(2, 3, 1) = BAD; shelf(2, 3) = 0");
    }

    @Says(promise = 21, value = {"NO if the shelf does not take it.", "shelf 0 takes only meetings, shelf 1 only streets,"
        + " shelf 2 both", UNCHANGED})
    private static void promise21RefusesOtherThings() {
        refused(NO, "shelve(0, 0, 8); shelve(0, 3, 13)", INITIAL, BUSY, CROWDED);
        refused(NO, "shelve(1, 0, 0); shelve(1, 3, 5)", INITIAL, BUSY, CROWDED);
        refused(NO, "shelve(0, 3, 15); shelve(1, 0, 7)", CROWDED);
        refused(NO, "shelve(1, 0, 0)", LEAST, UNEVEN);
        answers(INITIAL, "shelve(0, 0, 0) = 1; shelve(0, 0, 8) = NO; shelf(0, 0) = 0; shelve(1, 0, 8) = 1;"
                + "shelve(1, 0, 5) = NO; shelf(1, 0) = 8; shelve(2, 0, 5) = 1; shelve(2, 0, 13) = 1; shelf(2, 0) = 13");
    }

    @Says(promise = 21, value = {"There are three shelves with four places each, which are empty initially",
        "Returns 1;"})
    private static void promise21FillsEmptyPlaces() {
        TwoSurveys x = new TwoSurveys();
        for (int n = 0; n < 12; n++) {
            due("shelf(" + n / 4 + ", " + n % 4 + ")", x.shelf(n / 4, n % 4), NONE);
            int thing = n / 4 == 1 || n > 9 ? 8 + n % 4 : n % 4;
            due("shelve(" + n / 4 + ", " + n % 4 + ", " + thing + ")", x.shelve(n / 4, n % 4, thing), 1);
        }
        for (int n = 0; n < 12; n++) {
            int thing = n / 4 == 1 || n > 9 ? 8 + n % 4 : n % 4;
            due("shelf(" + n / 4 + ", " + n % 4 + ") then", x.shelf(n / 4, n % 4), thing);
        }
    }

    @Says(promise = 21, value = {"Puts a thing on a shelf, in place of what is there.", "Returns 1;"})
    private static void promise21ReplacesWhatIsThere() {
        answers(CROWDED, "count(9) = 12; shelve(2, 3, 0) = 1; count(9) = 12; shelf(2, 3) = 0; shelve(2, 3, 0) = 1;"
                + "shelf(2, 2) = 0; shelf(1, 3) = 9; shelve(0, 0, 6) = 1; shelf(0, 0) = 6; shelf(0, 1) = 7; count(9) = 12");
        answers(INITIAL, "shelve(0, 0, 0) = 1; shelve(0, 1, 0) = 1; count(9) = 2; shelve(0, 0, 1) = 1; count(9) = 2;"
                + "shelf(0, 0) = 1; shelf(0, 1) = 0");
    }

    @Says(promise = 21, value = ORDER)
    private static void promise21BadBeforeNo() {
        refused(BAD, "shelve(0, 0, 14); shelve(0, 4, 8); shelve(1, -1, 0); shelve(1, 0, 6); shelve(0, 0, 16)", INITIAL, BUSY);
        refused(BAD, "shelve(0, 0, 8); shelve(1, 0, 1)", LEAST, UNEVEN);
    }

    // ---- promise 22: shelf

    @Says(promise = 22, value = {"the shelf, 0 to 2", "BAD if shelf or place is out of range", UNCHANGED})
    private static void promise22TakesShelves0To2() {
        refused(BAD, beyond("shelf(?, 0)", 0, 2));
        refused(BAD, beyond("shelf(?, 3)", 0, 2), CROWDED);
        answers(CROWDED, "shelf(0, 0) = 0; shelf(1, 0) = 8; shelf(2, 0) = 7");
    }

    @Says(promise = 22, value = {"Tells what is on a shelf.", "the place, 0 to 3", "BAD if shelf or place is out of range", UNCHANGED})
    private static void promise22TakesPlaces0To3() {
        for (int shelf = 0; shelf < 3; shelf++) {
            refused(BAD, beyond("shelf(" + shelf + ", ?)", 0, 3));
        }
        answers(CROWDED, "shelf(0, 0) = 0; shelf(0, 1) = 7; shelf(0, 2) = 3; shelf(0, 3) = 3; shelf(1, 0) = 8;"
                + "shelf(1, 1) = 15; shelf(1, 2) = 9; shelf(1, 3) = 9; shelf(2, 0) = 7; shelf(2, 1) = 15; shelf(2, 2) = 0;"
                + "shelf(2, 3) = 8");
    }

    @Says(promise = 22, value = {"NONE if the place is empty.", UNCHANGED})
    private static void promise22EmptyPlaces() {
        for (int n = 0; n < 12; n++) {
            refused(NONE, "shelf(" + n / 4 + ", " + n % 4 + ")", INITIAL, LEAST, CROWDED.then("lay()"));
        }
        refused(NONE, "shelf(0, 1); shelf(1, 2); shelf(2, 3)", BUSY);
        answers(INITIAL, "shelve(0, 0, 0) = 1; shelf(0, 0) = 0; shelf(0, 1) = NONE; shelf(1, 0) = NONE; shelve(2, 3, 0) = 1;"
                + "shelf(2, 3) = 0; shelf(2, 2) = NONE");
    }

    @Says(promise = 22, value = {"Returns the thing, 0 to 15, as for shelve()", "(It stays, with the number that it had when it"
        + " was put there, whatever becomes of the surveys, until something else is put there or lay() succeeds.)"})
    private static void promise22ThingsStay() {
        answers(CROWDED, "cut(0, 7) = 7; shelf(2, 1) = 15; cut(0, 0) = 6; shelf(1, 0) = 8; shelf(2, 3) = 8; shelf(1, 1) = 15;"
                + "move(0, 7, 0, 0) = 1; shelf(2, 0) = 7; undo() = 7; undo() = 6; shelf(1, 1) = 15; back() = 1; back() = 0;"
                + "shelf(1, 1) = 15; shelf(0, 0) = 0; shelf(0, 1) = 7; count(9) = 12; shelve(2, 1, 0) = 1; shelf(2, 1) = 0");
        answers(CROWDED, "wipe() = 200; lay() = NO; shelf(1, 1) = 15; count(9) = 12; write(120) = 1; lay() = NO;"
                + "shelf(2, 3) = 8");
        answers(INITIAL, "shelve(1, 0, 13) = 1; cut(0, 5) = 5; shelf(1, 0) = 13; shelve(1, 0, 13) = BAD; shelf(1, 0) = 13;"
                + "shelve(1, 0, 0) = NO; shelf(1, 0) = 13; shelve(1, 0, 12) = 1; shelf(1, 0) = 12");
        answers(LEAST.then("shelve(0, 0, 0);" + writes("a0,1,1;b0,1,1;")), "shelf(0, 0) = 0; lay() = 2; shelf(0, 0) = NONE");
    }

    @Says(promise = 22, value = ORDER)
    private static void promise22BadBeforeNone() {
        refused(BAD, "shelf(3, 0); shelf(0, 4); shelf(2, 4); shelf(-1, 3)", INITIAL, LEAST);
    }

    // ---- promise 23: day

    @Says(promise = 23, value = {"0 to 9999", "BAD if an argument is out of range.", UNCHANGED})
    private static void promise23TakesZ0To9999() {
        refused(BAD, beyond("day(?, 20, 0)", 0, 9999));
        refused(BAD, beyond("day(?, 1, 1)", 0, 9999), INITIAL, CROWDED);
        sameDays(0, 1, 20);
        sameDays(9999, 1, 20);
    }

    @Says(promise = 23, value = {"1 to 20", "BAD if an argument is out of range.", UNCHANGED})
    private static void promise23TakesN1To20() {
        refused(BAD, beyond("day(7, ?, 0)", 1, 20));
        refused(BAD, beyond("day(7, ?, 1)", 1, 20), INITIAL, CROWDED);
        sameDays(7, 1, 2, 19, 20);
    }

    @Says(promise = 23, value = {"0: the value of whole(0) then; 1: that of whole(1)", "Returns the value; BAD if an argument is"
        + " out of range.", UNCHANGED})
    private static void promise23TakesWhat0And1() {
        refused(BAD, beyond("day(7, 20, ?)", 0, 1));
        refused(BAD, "day(7, 20, 2); day(7, 20, 3); day(7, 20, 4); day(7, 20, 5)", INITIAL);
        answers(INITIAL, "day(7, 20, 0) = 3; day(7, 20, 1) = 0");
        sameDays(17, 5, 20);
    }

    /** Towns of many pairs, of which a day leaves some, and of one meeting. */
    private static final Town[] TOWNS_OF_DAYS = {INITIAL, CROWDED, LEAST, UNEVEN,
        laid("r20;" + "a2,30,30;".repeat(7) + "b2,31,31;".repeat(8) + "s0,1,1;t0,1,2;"),
        laid("r20;n0;a2,10,10;a2,50,10;a2,10,50;a2,50,50;b2,12,12;b2,52,12;b2,12,52;b2,52,52;b2,30,30;")};

    /** A day is as its moves by move() are, for one that is made beside it. */
    private static void sameDays(int z, int... lengths) {
        for (Town town : TOWNS_OF_DAYS) {
            TwoSurveys x = town.make();
            for (int n : lengths) {
                TwoSurveys twin = town.make();
                for (int k = 0; k < n; k++) {
                    moveAsTheDay(twin, z, k);
                }
                String day = "(" + town.name + ") day(" + z + ", " + n + ", ";
                due(day + "0)", x.day(z, n, 0), twin.whole(0));
                due(day + "1)", x.day(z, n, 1), twin.whole(1));
            }
        }
    }

    private static void moveAsTheDay(TwoSurveys twin, int z, int k) {
        BigInteger root = BigInteger.valueOf(7919).multiply(BigInteger.valueOf(z))
                .add(BigInteger.valueOf(6151).multiply(BigInteger.valueOf(k))).add(BigInteger.ONE);
        int d = root.pow(2).mod(BigInteger.valueOf(65521)).intValueExact();
        int meetings = twin.count(d % 2);
        due("meetings of survey " + d % 2, meetings > 0, true);
        int moved = twin.move(d % 2, d / 2 % Math.max(1, meetings), d / 16 % 61, d / 256 % 61);
        due("a move of the day", moved == 1 || moved == NO, true);
    }

    @Says(promise = 23, value = "Simulates n random moves on a copy of the surveys; nothing changes by this. For k from 0 to n"
        + " - 1, let d be x * x modulo 65521, where x = 7919 * z + 6151 * k + 1; the meeting with the number (d / 2) modulo"
        + " (number of meetings) of the survey d modulo 2 is moved to x = (d / 16) modulo 61 and y = (d / 256) modulo 61 (the"
        + " quotients are rounded down; it can be there already).")
    private static void promise23Moves() {
        // With z 0, d is at first 1: the meeting 0 of survey 1 goes to 0, 0, where it can be already.
        answers(laid("r1;a0,0,0;b0,9,9;"), "whole(0) = 0; day(0, 1, 0) = 1; whole(0) = 0");
        answers(laid("r1;a0,0,0;b0,0,0;"), "day(0, 1, 0) = 1; day(0, 1, 1) = 0");
        answers(laid("r1;a0,9,9;b0,9,9;"), "day(0, 1, 0) = 0; whole(0) = 1");
        // In these moves d is 0 and 65520, the least and the greatest one.
        for (int z : new int[] {3323, 4645, 8058, 9380, 1049, 2184, 862}) {
            sameDays(z, 2, 3, 5, 10, 15, 16, 18, 20);
        }
        for (int z = 0; z <= 9999; z += 909) {
            sameDays(z, 1, 3, 8, 13, 20);
        }
        for (Town town : ALL) {
            leavesAll(town, "day(0, 20, 0)");
            leavesAll(town, "day(9999, 20, 1)");
        }
    }

    // ---- promise 24: keep

    @Says(promise = 24, value = "At most two such states are kept.")
    private static void promise24KeepsTwo() {
        answers(INITIAL, "keep() = 1; keep() = 2; keep() = FULL; keep() = FULL; back() = 1; keep() = 2; keep() = FULL;"
                + "back() = 1; back() = 0; back() = NO; keep() = 1; count(7) = 1");
        answers(INITIAL, "tune(0, 1) = 12; keep() = 1; tune(0, 2) = 1; keep() = 2; tune(0, 3) = 2; keep() = FULL;"
                + "back() = 1; count(4) = 2; back() = 0; count(4) = 1; back() = NO; count(4) = 1");
    }

    @Says(promise = 24, value = {"Returns how many states are kept then", "FULL if two are kept already.", UNCHANGED})
    private static void promise24RefusesTheThird() {
        refused(FULL, "keep()", CROWDED, INITIAL.then("keep(); keep()"), LEAST.then("keep(); move(0, 0, 1, 1); keep()"),
                UNEVEN.then("keep(); cut(1, 0); keep(); back(); keep(); tune(0, 1)"));
        answers(BUSY, "count(7) = 1; keep() = 2; count(7) = 2; keep() = FULL; count(7) = 2");
        answers(CROWDED, "keep() = FULL; lay() = 16; keep() = 1; keep() = 2; keep() = FULL");
    }

    @Says(promise = 24, value = "Keeps the present surveys, the radius and the number of rounds.")
    private static void promise24KeepsAll() {
        String acts = "move(0, 0, 1, 2); move(1, 0, 60, 0); rename(0, 0, 3); rename(1, 0, 2); tune(0, 20); tune(1, 0);";
        for (Town town : ALL) {
            Town kept = town.then("undo();".repeat(8) + "back(); back(); keep()");
            sameTown(kept.then(acts + "back(); keep()"), kept);
            sameTown(kept.then(acts + "undo();".repeat(6)), kept);
        }
        String streets = "cut(0, 0); name(0, 0, 1); join(0, 0, 1, 1); cut(1, 5); name(1, 0, 1); join(1, 0, 2, 1);";
        sameTown(INITIAL.then("keep();" + streets + "back()"), INITIAL);
        sameTown(INITIAL.then(acts + "keep();" + streets + "back()"), INITIAL.then(acts));
        answers(BUSY, "count(6) = 2; keep() = 2; count(6) = 2; undo() = 1; undo() = 0; undo() = NO");
    }

    // ---- promise 25: back

    @Says(promise = 25, value = {"Restores the state that was kept last; it is not kept any more then.",
        "Returns how many states are still kept"})
    private static void promise25RestoresTheLast() {
        answers(INITIAL, "keep() = 1; tune(0, 1) = 12; keep() = 2; tune(0, 2) = 1; back() = 1; count(7) = 1; count(4) = 1;"
                + "tune(0, 3) = 1; back() = 0; count(7) = 0; count(4) = 12; back() = NO; count(4) = 12");
        answers(CROWDED, "count(3) = 8; back() = 1; count(3) = 8; back() = 0; count(3) = 4; count(5) = 3; back() = NO");
        answers(CROWDED, "cut(1, 0) = 7; back() = 1; count(3) = 8; keep() = 2; cut(1, 0) = 7; back() = 1; count(3) = 8");
        sameTown(CROWDED.then("cut(0, 0); tune(0, 1); back(); keep()"), CROWDED.then("back(); keep()"));
    }

    @Says(promise = 25, value = "Nothing can be undone then.")
    private static void promise25NothingUndone() {
        answers(CROWDED, "count(6) = 8; back() = 1; count(6) = 0; undo() = NO; cut(0, 0) = 7; count(6) = 1; back() = 0;"
                + "count(6) = 0; undo() = NO");
        answers(INITIAL, "tune(0, 1) = 12; keep() = 1; back() = 0; undo() = NO; count(4) = 1; tune(0, 2) = 1; undo() = 0;"
                + "count(4) = 1; undo() = NO");
        answers(BUSY, "back() = 0; undo() = NO; name(1, 2, 8) = 4; undo() = 0; undo() = NO");
    }

    @Says(promise = 25, value = "(The shelves and the text buffer are not affected.)")
    private static void promise25LeavesShelvesAndText() {
        answers(INITIAL, "shelve(0, 0, 1) = 1; write(97) = 1; keep() = 1; shelve(0, 0, 2) = 1; shelve(2, 3, 13) = 1;"
                + "write(98) = 2; back() = 0; shelf(0, 0) = 2; shelf(2, 3) = 13; count(9) = 2; count(8) = 2");
        answers(CROWDED, "wipe() = 200; shelve(0, 0, 5) = 1; back() = 1; count(8) = 0; shelf(0, 0) = 5; count(9) = 12");
        answers(CROWDED, "back() = 1; count(8) = 200; fault() = NONE; lay() = 16");
    }

    @Says(promise = 25, value = {"NO if none is kept.", UNCHANGED})
    private static void promise25RefusesWithoutStates() {
        refused(NO, "back()", INITIAL, LEAST, UNEVEN, BUSY.then("back()"), BUSY.then("back(); cut(0, 0); cut(0, 0)"),
                CROWDED.then("back(); back()"), CROWDED.then("lay()"), INITIAL.then("move(0, 0, 1, 1)"));
    }

    // ---- promise 26: count

    @Says(promise = 26, value = {"BAD if what is out of range.", UNCHANGED})
    private static void promise26RefusesWhat() {
        refused(BAD, beyond("count(?)", 0, 9));
    }

    @Says(promise = 26, value = {"Returns a count.", "Returns the value;"})
    private static void promise26EachCount() {
        int[][] counts = {{6, 6, 6, 6, 12, 2, 0, 0, 0, 0}, {6, 6, 6, 6, 12, 2, 2, 1, 11, 2},
            {8, 8, 8, 8, 10, 3, 8, 2, 200, 12}, {1, 1, 0, 0, 10, 2, 0, 0, 0, 0}, {1, 2, 0, 1, 7, 1, 0, 0, 34, 0}};
        for (int n = 0; n < ALL.length; n++) {
            TwoSurveys x = ALL[n].make();
            for (int what = 0; what <= 9; what++) {
                due("(" + ALL[n].name + ") count(" + what + ")", x.count(what), counts[n][what]);
            }
        }
    }

    @Says(promise = 26, value = {"0: meetings of survey 0; 1: meetings of survey 1; 2: streets of survey 0; 3: streets of"
        + " survey 1; 4: R; 5: N", SIZES})
    private static void promise26CountsTheSurveys() {
        answers(LEAST, "count(0) = 1; count(1) = 1; count(2) = 0; count(3) = 0; count(4) = 10; count(5) = 2");
        answers(CROWDED, "count(0) = 8; count(1) = 8; count(2) = 8; count(3) = 8; count(4) = 10; count(5) = 3");
        answers(UNEVEN, "count(0) = 1; count(1) = 2; count(2) = 0; count(3) = 1; count(4) = 7; count(5) = 1");
        answers(CROWDED, "cut(0, 0) = 7; count(2) = 7; count(3) = 8; tune(0, 20) = 10; count(4) = 20; tune(1, 0) = 3;"
                + "count(5) = 0; tune(0, 1) = 20; count(4) = 1; undo() = 7; count(4) = 20");
    }

    @Says(promise = 26, value = "6: acts that can be undone")
    private static void promise26CountsActs() {
        answers(INITIAL, "count(6) = 0; cut(0, 0) = 5; count(6) = 1; cut(0, 9) = BAD; count(6) = 1; undo() = 0; count(6) = 0");
        answers(CROWDED, "count(6) = 8; cut(0, 0) = 7; count(6) = 8; undo() = 7; count(6) = 7; cut(0, 0) = 7; count(6) = 8;"
                + "back() = 1; count(6) = 0");
    }

    @Says(promise = 26, value = "7: states that are kept")
    private static void promise26CountsStates() {
        answers(INITIAL, "count(7) = 0; keep() = 1; count(7) = 1; keep() = 2; count(7) = 2; keep() = FULL; count(7) = 2;"
                + "back() = 1; count(7) = 1; back() = 0; count(7) = 0; back() = NO; count(7) = 0");
    }

    @Says(promise = 26, value = "8: characters of the text buffer")
    private static void promise26CountsCharacters() {
        answers(INITIAL, "count(8) = 0; write(32) = 1; count(8) = 1; write(31) = BAD; count(8) = 1; wipe() = 1; count(8) = 0");
        answers(CROWDED, "count(8) = 200; write(32) = FULL; count(8) = 200; lay() = 16; count(8) = 200; wipe() = 200;"
                + "count(8) = 0");
    }

    @Says(promise = 26, value = "9: things on all shelves")
    private static void promise26CountsThings() {
        TwoSurveys x = new TwoSurveys();
        for (int n = 0; n < 12; n++) {
            due("count(9) of " + n, x.count(9), n);
            due("shelve", x.shelve(n / 4, n % 4, n / 4 == 1 ? 13 : 0), 1);
        }
        due("count(9) of 12", x.count(9), 12);
        due("shelve in place of another", x.shelve(2, 0, 13), 1);
        due("count(9)", x.count(9), 12);
        answers(CROWDED, "count(9) = 12; cut(0, 7) = 7; count(9) = 12; lay() = 16; count(9) = 0");
    }

    // ---- the document

    /** The document says the words of the tests, and tests stand for its words. */
    private static void compareWithDocument(List<Method> tests) throws Exception {
        String document = Files.readString(DOCUMENT).replaceAll("(?m)^### .*$", "").replaceAll("\\s+", " ");
        String whatItIs = part(document, " ## What it is ", " ## ");
        String description = part(document, " ## Description ", " Examples: ") + " " + whatItIs;
        boolean[] isTested = new boolean[description.length()];
        for (int promise = 0; promise <= PROMISES; promise++) {
            String says = promise == 0 ? whatItIs
                    : withoutMarks(part(document, " ## Promise " + promise + ": ", " ## "));
            boolean[] isTestedHere = new boolean[says.length()];
            for (Method each : tests) {
                if (promiseOf(each) == promise) {
                    mark(each, says, isTestedHere, description, isTested);
                }
            }
            if (promise > 0) {
                untested("promise " + promise, says, isTestedHere);
            }
        }
        untested("the description", description, isTested);
    }

    /** Of a promise, what is behind its signature and the names of its arguments. */
    private static String withoutMarks(String says) {
        return says.replaceFirst("^[^`]*`[^`]*` (---- \\w+ )?", "").replaceAll("(^| )- `\\w+`:", "");
    }

    private static String part(String document, String from, String to) {
        int start = (" " + document).indexOf(from);
        int end = start < 0 ? -1 : (" " + document).indexOf(to, start + from.length());
        if (end < 0) {
            fault("the document has no part from" + from + "to" + to);
            return "";
        }
        return (" " + document).substring(start + from.length(), end);
    }

    private static void mark(Method each, String says, boolean[] isTestedHere, String description, boolean[] isTested) {
        for (String words : each.getAnnotation(Says.class).value()) {
            boolean isSaid = mark(words, says, isTestedHere);
            if (!mark(words, description, isTested) && !isSaid) {
                fault("does not say what " + each.getName() + " stands for: " + words);
            }
        }
    }

    private static boolean mark(String words, String text, boolean[] isTested) {
        int at = text.indexOf(words);
        boolean isSaid = at >= 0;
        while (at >= 0) {
            Arrays.fill(isTested, at, at + words.length(), true);
            at = text.indexOf(words, at + 1);
        }
        return isSaid;
    }

    /** Words for which no test stands. */
    private static void untested(String where, String text, boolean[] isTested) {
        Matcher word = Pattern.compile("\\w+").matcher(text);
        while (word.find()) {
            if (!isTested[word.start()]) {
                fault("no test stands for '" + word.group() + "' in " + where + ": .."
                        + text.substring(Math.max(0, word.start() - 60), Math.min(text.length(), word.end() + 40)) + "..");
            }
        }
    }
}
