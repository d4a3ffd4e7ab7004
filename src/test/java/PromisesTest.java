import java.math.BigInteger;
import java.util.function.Consumer;
import java.util.function.ToIntFunction;

/** The promises 1 to 26, a method each: ordinary inputs, edges and wrong inputs. */
public final class PromisesTest {
    private static final int BAD = -1, NO = -2, FULL = -3, NONE = -4, EVEN = 100000;
    private static final int[] OUT_OF_ANY_RANGE = {-1, Integer.MIN_VALUE, Integer.MAX_VALUE};
    private static final int[][] MEETINGS0 = {{0, 5, 5}, {0, 20, 6}, {0, 34, 8}, {1, 6, 24}, {0, 21, 25}, {2, 40, 26}};
    private static final int[][] MEETINGS1 = {{0, 8, 7}, {0, 22, 5}, {0, 33, 11}, {0, 9, 28}, {0, 24, 27}, {0, 30, 18}};
    private static final int[][] STREETS0 = {{0, 1, 3}, {1, 2, 0}, {0, 3, 4}, {1, 4, 0}, {3, 4, 5}, {4, 5, 0}};
    private static final int[][] STREETS1 = {{0, 1, 3}, {1, 2, 6}, {0, 3, 4}, {1, 5, 7}, {5, 4, 7}, {3, 4, 5}};

    private static int wrong = 0;
    private static int promise = 0;

    public static void main(String[] args) {
        promise1NewObject();
        promise2Write();
        promise3Wipe();
        promise4Fault();
        promise5Lay();
        promise6Meeting();
        promise7Street();
        promise8Move();
        promise9Rename();
        promise10Name();
        promise11Join();
        promise12Cut();
        promise13Tune();
        promise14Undo();
        promise15Belief();
        promise16Match();
        promise17Told();
        promise18Named();
        promise19Comes();
        promise20Whole();
        promise21Shelve();
        promise22Shelf();
        promise23Day();
        promise24Keep();
        promise25Back();
        promise26Count();
        if (wrong != 0) {
            System.exit(1);
        }
    }

    // ---- what all the tests use

    private static void due(String call, Object got, Object want) {
        if (!want.equals(got)) {
            wrong++;
            System.out.println("promise " + promise + ": " + call + " answered " + got + ", due is " + want);
        }
    }

    private static void type(TwoSurveys x, String text) {
        for (int i = 0; i < text.length(); i++) {
            x.write(text.charAt(i));
        }
    }

    private static TwoSurveys typed(String text) {
        TwoSurveys x = new TwoSurveys();
        type(x, text);
        return x;
    }

    private static TwoSurveys laid(String text) {
        TwoSurveys x = typed(text);
        if (x.lay() < 0) {
            wrong++;
            System.out.println("promise " + promise + ": " + text + " is not laid");
        }
        return x;
    }

    /**
     * What an object tells of its state, and of what it can undo and restore. It is used up by this; the
     * calls stay below the 512 for which the document speaks.
     */
    private static String inside(TwoSurveys x) {
        StringBuilder told = new StringBuilder("counts");
        for (int what = 0; what <= 9; what++) {
            told.append(' ').append(x.count(what));
        }
        told.append(" fault ").append(x.fault()).append(" shelves");
        for (int n = 0; n < 12; n++) {
            told.append(' ').append(x.shelf(n / 4, n % 4));
        }
        towns(x, told);
        int kept = x.count(7);
        for (int n = 0; n < 9; n++) {
            told.append(" undo ").append(x.undo());
        }
        towns(x, told);
        for (int n = 0; n < kept; n++) {
            told.append(" back ").append(x.back());
            towns(x, told);
        }
        return told.toString();
    }

    private static void towns(TwoSurveys x, StringBuilder told) {
        told.append(" R ").append(x.count(4)).append(" N ").append(x.count(5));
        for (int survey = 0; survey < 2; survey++) {
            int meetings = x.count(survey);
            int streets = x.count(2 + survey);
            for (int i = 0; i < meetings; i++) {
                told.append(" m").append(x.meeting(survey, i, 0)).append(',').append(x.meeting(survey, i, 1))
                        .append(',').append(x.meeting(survey, i, 2));
            }
            for (int s = 0; s < streets; s++) {
                told.append(" s").append(x.street(survey, s, 0)).append(',').append(x.street(survey, s, 1))
                        .append(',').append(x.street(survey, s, 2));
            }
        }
    }

    /** The call answers the code, and the object is then like another one that was not called. */
    private static void leaves(String call, Consumer<TwoSurveys> before, ToIntFunction<TwoSurveys> asked, int want) {
        TwoSurveys x = new TwoSurveys();
        TwoSurveys twin = new TwoSurveys();
        before.accept(x);
        before.accept(twin);
        due(call, asked.applyAsInt(x), want);
        due("the state behind " + call, inside(x), inside(twin));
    }

    /** Something of each kind that a call could spoil. */
    private static void full(TwoSurveys x) {
        type(x, "a0,1,1;b0,2");
        x.shelve(0, 0, 3);
        x.shelve(1, 3, 9);
        x.move(0, 1, 22, 7);
        x.keep();
        x.name(1, 2, 8);
    }

    private static void refused(String call, ToIntFunction<TwoSurveys> asked, int want) {
        leaves(call, PromisesTest::full, asked, want);
    }

    // ---- the promises

    private static void promise1NewObject() {
        promise = 1;
        TwoSurveys x = new TwoSurveys();
        int[][][] meetings = {MEETINGS0, MEETINGS1};
        int[][][] streets = {STREETS0, STREETS1};
        for (int survey = 0; survey < 2; survey++) {
            for (int n = 0; n < 6; n++) {
                for (int what = 0; what < 3; what++) {
                    String of = "(" + survey + ", " + n + ", " + what + ")";
                    due("meeting" + of, x.meeting(survey, n, what), meetings[survey][n][what]);
                    due("street" + of, x.street(survey, n, what), streets[survey][n][what]);
                }
            }
            due("meeting(" + survey + ", 6, 0)", x.meeting(survey, 6, 0), BAD);
            due("street(" + survey + ", 6, 0)", x.street(survey, 6, 0), BAD);
        }
        for (int shelf = 0; shelf < 3; shelf++) {
            for (int place = 0; place < 4; place++) {
                due("shelf(" + shelf + ", " + place + ")", x.shelf(shelf, place), NONE);
            }
        }
        due("radius", x.count(4), 12);
        due("rounds", x.count(5), 2);
        due("letters", x.count(8), 0);
        due("fault()", x.fault(), NONE);
        due("lay()", x.lay(), NO);
        due("undo()", x.undo(), NO);
        due("back()", x.back(), NO);
        due("wipe()", x.wipe(), 0);
        TwoSurveys other = new TwoSurveys();
        x.cut(0, 0);
        due("another object", other.count(2), 6);
    }

    private static void promise2Write() {
        promise = 2;
        TwoSurveys x = new TwoSurveys();
        due("write(32)", x.write(32), 1);
        due("write(126)", x.write(126), 2);
        due("write(97)", x.write(97), 3);
        due("letters", x.count(8), 3);
        for (int letter : new int[] {31, 127, 0, -1, 256 + 97, 65536 + 97, Integer.MIN_VALUE, Integer.MAX_VALUE}) {
            refused("write(" + letter + ")", y -> y.write(letter), BAD);
        }
        for (int n = 4; n <= 200; n++) {
            due("write number " + n, x.write(48), n);
        }
        due("the 201st write", x.write(48), FULL);
        due("a wrong write to a full buffer", x.write(127), BAD);
        due("letters", x.count(8), 200);
        due("wipe()", x.wipe(), 200);
        due("write behind a wipe", x.write(48), 1);
        TwoSurveys y = typed("a2,3,41;b1,59,6;");
        due("lay()", y.lay(), 2);
        due("the letters in their order", y.meeting(0, 0, 2), 41);
        String rest = "r1;".repeat(66);
        leaves("write to a full buffer", z -> type(z, rest + "n1"), z -> z.write(59), FULL);
    }

    private static void promise3Wipe() {
        promise = 3;
        TwoSurveys x = typed("r1;x");
        due("fault()", x.fault(), 3);
        due("wipe()", x.wipe(), 4);
        due("letters", x.count(8), 0);
        due("fault()", x.fault(), NONE);
        due("wipe() of nothing", x.wipe(), 0);
        type(x, "n1;");
        due("fault()", x.fault(), NONE);
        due("wipe()", x.wipe(), 3);
        TwoSurveys y = new TwoSurveys();
        full(y);
        y.wipe();
        due("surveys", y.meeting(0, 1, 1), 22);
        due("things", y.count(9), 2);
        due("acts", y.count(6), 2);
        due("kept", y.count(7), 1);
    }

    private static void fault(String text, int want) {
        leaves("fault() of " + text, x -> type(x, text), TwoSurveys::fault, want);
    }

    private static void promise4Fault() {
        promise = 4;
        String eight = "a0,1,1;".repeat(8);
        for (String good : new String[] {"", "r1;", "r20;", "r01;", "n0;", "n3;", "n03;", "r5;r6;n1;n2;", "a0,0,0;",
            "a3,60,60;", "a03,00,09;", "b3,60,60;", eight, "b0,1,1;".repeat(8), eight + "b0,1,1;".repeat(8),
            "a0,1,1;a0,1,1;s0,1,0;", "a0,1,1;a0,1,1;s1,0,9;", "b0,1,1;b0,1,1;t01,00,09;",
            "a0,1,1;a0,1,1;a0,1,1;s0,1,1;s1,2,1;s2,0,1;", "a0,1,1;a0,2,2;b0,1,1;b0,2,2;s0,1,1;t0,1,1;",
            eight + "s0,1,0;s0,2,0;s0,3,0;s0,4,0;s0,5,0;s0,6,0;s0,7,0;s1,2,0;"}) {
            fault(good, NONE);
        }
        for (String bad : new String[] {"r0;", "r21;", "r00;", "r;", "r", "r1", "r1,", "r1,1;", "r001;", "r100;", "r-1;",
            "r 1;", "n4;", "n;", "n1", "n1,2;", "n99;", "a4,1,1;", "a0,61,1;", "a0,1,61;", "a0,1;", "a0,1,1", "a0,1,",
            "a0,1", "a0,", "a0", "a", "a0,1,1,1;", "a0,1,1,", "a,1,1;", "a0,,1;", "a0,1,;", "a0;1;1;", "a000,1,1;",
            "a0,100,1;", "a0.1,1;", "b4,1,1;", "b0,61,1;", "b0,1,61;", "s0,1,0;", "t0,1,0;", "c0,1,1;", "A0,1,1;",
            "R1;", "1;", ";", ",", " ", "~", "r1 ;", "ar1;", "s", "t0,0"}) {
            fault(bad, 0);
            fault("r2;" + bad, 3);
            fault("r2;a0,0,0;" + bad + "r3;", 10);
        }
        String two = "a0,1,1;a0,1,1;b0,1,1;b0,1,1;b0,1,1;";
        for (String bad : new String[] {"s0,2,1;", "s2,0,1;", "s0,0,1;", "s0,1,10;", "s0,1;", "t0,3,1;", "t3,0,1;",
            "t1,1,1;", "t0,1,10;", "t0,1,1", "t0,99,1;"}) {
            fault(two + bad, 35);
        }
        fault(two + "s0,1,1;s0,1,2;", 42);
        fault(two + "s0,1,1;s1,0,1;", 42);
        fault(two + "t2,1,1;t1,2,1;", 42);
        fault(eight + "a0,1,1;", 56);
        fault("b0,1,1;".repeat(8) + "b0,1,1;", 56);
        fault(eight + "s0,1,0;s0,2,0;s0,3,0;s0,4,0;s0,5,0;s0,6,0;s0,7,0;s1,2,0;s1,3,0;", 112);
        // A meeting must be told before its street.
        fault("a0,1,1;s0,1,0;a0,1,1;", 7);
        fault("r1;x;y;", 3);
        refused("fault()", TwoSurveys::fault, 7);
    }

    private static void promise5Lay() {
        promise = 5;
        for (String bad : new String[] {"", "r3;", "a0,1,1;", "b0,1,1;", "a0,1,1;b0,1,1;x", "a0,1,1;b0,1,1;r0;",
            "a0,1,1;b0,1,1"}) {
            leaves("lay() of " + bad, x -> {
                full(x);
                x.wipe();
                type(x, bad);
            }, TwoSurveys::lay, NO);
        }
        TwoSurveys x = new TwoSurveys();
        full(x);
        x.wipe();
        type(x, "s");
        x.wipe();
        type(x, "b1,2,3;a2,4,5;b3,6,7;t1,0,9;a0,60,0;s0,1,4;");
        due("lay()", x.lay(), 4);
        due("R of a text without it", x.count(4), 10);
        due("N of a text without it", x.count(5), 2);
        due("letters", x.count(8), 43);
        due("fault()", x.fault(), NONE);
        due("things", x.count(9), 0);
        due("shelf(0, 0)", x.shelf(0, 0), NONE);
        due("undo()", x.undo(), NO);
        due("back()", x.back(), NO);
        StringBuilder told = new StringBuilder();
        towns(x, told);
        due("surveys", told.toString(), " R 10 N 2 m2,4,5 m0,60,0 s0,1,4 m1,2,3 m3,6,7 s1,0,9");
        due("lay() again", x.lay(), 4);
        x = laid("r3;n0;r7;n3;a0,0,0;b0,0,0;r20;n1;");
        due("R of the last item", x.count(4), 20);
        due("N of the last item", x.count(5), 1);
        due("streets of survey 0", x.count(2), 0);
        due("streets of survey 1", x.count(3), 0);
        due("all meetings", typed("a0,1,1;".repeat(8) + "b0,1,1;".repeat(8)).lay(), 16);
    }

    private static void promise6Meeting() {
        promise = 6;
        TwoSurveys x = laid("r15;a0,1,2;a1,3,4;a2,5,6;a3,60,0;b1,7,8;b0,0,60;s0,1,0;s2,0,0;t1,0,0;");
        int[][] want = {{0, 1, 2, 15, 2}, {1, 3, 4, 7, 1}, {2, 5, 6, 20, 1}, {3, 60, 0, 8, 0}};
        for (int i = 0; i < 4; i++) {
            for (int what = 0; what < 5; what++) {
                due("meeting(0, " + i + ", " + what + ")", x.meeting(0, i, what), want[i][what]);
            }
        }
        due("meeting(1, 0, 1)", x.meeting(1, 0, 1), 7);
        due("meeting(1, 0, 3)", x.meeting(1, 0, 3), 7);
        due("meeting(1, 1, 2)", x.meeting(1, 1, 2), 60);
        due("meeting(1, 1, 4)", x.meeting(1, 1, 4), 1);
        int[][] reaches = {{1, 1, 0, 6, 1}, {2, 2, 1, 7, 2}, {12, 12, 6, 17, 7}, {14, 14, 7, 19, 8},
            {16, 16, 8, 20, 9}, {20, 20, 10, 20, 11}};
        for (int[] reach : reaches) {
            x.tune(0, reach[0]);
            for (int kind = 0; kind < 4; kind++) {
                due("reach of kind " + kind + " with R " + reach[0], x.meeting(0, kind, 3), reach[kind + 1]);
            }
        }
        for (int out : OUT_OF_ANY_RANGE) {
            refused("meeting(" + out + ", 0, 0)", y -> y.meeting(out, 0, 0), BAD);
            refused("meeting(0, " + out + ", 0)", y -> y.meeting(0, out, 0), BAD);
            refused("meeting(1, 0, " + out + ")", y -> y.meeting(1, 0, out), BAD);
        }
        refused("meeting(2, 0, 0)", y -> y.meeting(2, 0, 0), BAD);
        refused("meeting(0, 6, 0)", y -> y.meeting(0, 6, 0), BAD);
        refused("meeting(1, 6, 4)", y -> y.meeting(1, 6, 4), BAD);
        refused("meeting(0, 0, 5)", y -> y.meeting(0, 0, 5), BAD);
        due("a meeting of the other survey alone", laid("a0,1,1;b0,1,1;b0,2,2;").meeting(0, 1, 0), BAD);
    }

    private static void promise7Street() {
        promise = 7;
        TwoSurveys x = new TwoSurveys();
        due("street(1, 4, 0)", x.street(1, 4, 0), 5);
        due("street(1, 4, 1)", x.street(1, 4, 1), 4);
        due("street(1, 4, 2)", x.street(1, 4, 2), 7);
        due("street(0, 1, 2)", x.street(0, 1, 2), 0);
        for (int out : OUT_OF_ANY_RANGE) {
            refused("street(" + out + ", 0, 0)", y -> y.street(out, 0, 0), BAD);
            refused("street(0, " + out + ", 0)", y -> y.street(0, out, 0), BAD);
            refused("street(1, 0, " + out + ")", y -> y.street(1, 0, out), BAD);
        }
        refused("street(2, 0, 0)", y -> y.street(2, 0, 0), BAD);
        refused("street(0, 6, 0)", y -> y.street(0, 6, 0), BAD);
        refused("street(0, 0, 3)", y -> y.street(0, 0, 3), BAD);
        due("a street where there is none", laid("a0,1,1;b0,1,1;b0,2,2;t0,1,0;").street(0, 0, 0), BAD);
    }

    private static void promise8Move() {
        promise = 8;
        TwoSurveys x = new TwoSurveys();
        due("move(0, 1, 0, 60)", x.move(0, 1, 0, 60), 1);
        due("x", x.meeting(0, 1, 1), 0);
        due("y", x.meeting(0, 1, 2), 60);
        due("the other survey", x.meeting(1, 1, 1), 22);
        due("the kind", x.meeting(0, 1, 0), 0);
        due("move(0, 1, 0, 60) again", x.move(0, 1, 0, 60), NO);
        due("move to another y", x.move(0, 1, 0, 59), 1);
        due("move to another x", x.move(0, 1, 1, 59), 1);
        due("move(1, 5, 60, 0)", x.move(1, 5, 60, 0), 1);
        due("move onto another meeting", x.move(1, 4, 60, 0), 1);
        due("acts", x.count(6), 5);
        x.undo();
        due("undone", x.meeting(1, 4, 1), 24);
        for (int out : OUT_OF_ANY_RANGE) {
            refused("move(" + out + ", 0, 1, 1)", y -> y.move(out, 0, 1, 1), BAD);
            refused("move(0, " + out + ", 1, 1)", y -> y.move(0, out, 1, 1), BAD);
            refused("move(0, 0, " + out + ", 5)", y -> y.move(0, 0, out, 5), BAD);
            refused("move(0, 0, 5, " + out + ")", y -> y.move(0, 0, 5, out), BAD);
        }
        refused("move(2, 0, 1, 1)", y -> y.move(2, 0, 1, 1), BAD);
        refused("move(0, 6, 1, 1)", y -> y.move(0, 6, 1, 1), BAD);
        refused("move(0, 0, 61, 5)", y -> y.move(0, 0, 61, 5), BAD);
        refused("move(0, 0, 5, 61)", y -> y.move(0, 0, 5, 61), BAD);
        refused("move(0, 0, 5, 5)", y -> y.move(0, 0, 5, 5), NO);
        refused("move(1, 0, 8, 7)", y -> y.move(1, 0, 8, 7), NO);
    }

    private static void promise9Rename() {
        promise = 9;
        TwoSurveys x = new TwoSurveys();
        due("rename(0, 3, 3)", x.rename(0, 3, 3), 1);
        due("kind", x.meeting(0, 3, 0), 3);
        due("rename(0, 3, 3) again", x.rename(0, 3, 3), NO);
        due("rename(0, 3, 0)", x.rename(0, 3, 0), 3);
        due("rename(1, 3, 2)", x.rename(1, 3, 2), 0);
        due("the other survey", x.meeting(0, 3, 0), 0);
        due("the place", x.meeting(1, 3, 1), 9);
        due("acts", x.count(6), 3);
        x.undo();
        due("undone", x.meeting(1, 3, 0), 0);
        for (int out : OUT_OF_ANY_RANGE) {
            refused("rename(" + out + ", 0, 1)", y -> y.rename(out, 0, 1), BAD);
            refused("rename(0, " + out + ", 1)", y -> y.rename(0, out, 1), BAD);
            refused("rename(0, 0, " + out + ")", y -> y.rename(0, 0, out), BAD);
        }
        refused("rename(2, 0, 1)", y -> y.rename(2, 0, 1), BAD);
        refused("rename(0, 6, 1)", y -> y.rename(0, 6, 1), BAD);
        refused("rename(0, 0, 4)", y -> y.rename(0, 0, 4), BAD);
        refused("rename(0, 5, 2)", y -> y.rename(0, 5, 2), NO);
    }

    private static void promise10Name() {
        promise = 10;
        TwoSurveys x = new TwoSurveys();
        due("name(0, 0, 9)", x.name(0, 0, 9), 3);
        due("the name", x.street(0, 0, 2), 9);
        due("the other survey", x.street(1, 0, 2), 3);
        due("name(0, 0, 9) again", x.name(0, 0, 9), NO);
        due("name(0, 0, 0)", x.name(0, 0, 0), 9);
        due("name(1, 5, 1)", x.name(1, 5, 1), 5);
        due("acts", x.count(6), 3);
        x.undo();
        due("undone", x.street(1, 5, 2), 5);
        for (int out : OUT_OF_ANY_RANGE) {
            refused("name(" + out + ", 0, 1)", y -> y.name(out, 0, 1), BAD);
            refused("name(0, " + out + ", 1)", y -> y.name(0, out, 1), BAD);
            refused("name(0, 0, " + out + ")", y -> y.name(0, 0, out), BAD);
        }
        refused("name(2, 0, 1)", y -> y.name(2, 0, 1), BAD);
        refused("name(0, 6, 1)", y -> y.name(0, 6, 1), BAD);
        refused("name(0, 0, 10)", y -> y.name(0, 0, 10), BAD);
        refused("name(0, 1, 0)", y -> y.name(0, 1, 0), NO);
    }

    private static void promise11Join() {
        promise = 11;
        TwoSurveys x = new TwoSurveys();
        due("join(0, 5, 2, 9)", x.join(0, 5, 2, 9), 7);
        due("u", x.street(0, 6, 0), 5);
        due("v", x.street(0, 6, 1), 2);
        due("name", x.street(0, 6, 2), 9);
        due("the other survey", x.count(3), 6);
        due("join(0, 5, 2, 8) again", x.join(0, 5, 2, 8), NO);
        due("join(0, 2, 5, 9) backwards", x.join(0, 2, 5, 9), NO);
        due("join(0, 0, 5, 0)", x.join(0, 0, 5, 0), 8);
        due("join(0, 0, 4, 0) beyond 8", x.join(0, 0, 4, 0), FULL);
        due("NO comes before FULL", x.join(0, 0, 5, 0), NO);
        due("BAD comes before FULL", x.join(0, 0, 4, 10), BAD);
        due("streets", x.count(2), 8);
        due("join(1, 0, 2, 0)", x.join(1, 0, 2, 0), 7);
        due("acts", x.count(6), 3);
        x.undo();
        x.undo();
        due("undone", x.count(2), 7);
        for (int out : OUT_OF_ANY_RANGE) {
            refused("join(" + out + ", 0, 2, 1)", y -> y.join(out, 0, 2, 1), BAD);
            refused("join(0, " + out + ", 2, 1)", y -> y.join(0, out, 2, 1), BAD);
            refused("join(0, 0, " + out + ", 1)", y -> y.join(0, 0, out, 1), BAD);
            refused("join(0, 0, 2, " + out + ")", y -> y.join(0, 0, 2, out), BAD);
        }
        refused("join(2, 0, 2, 1)", y -> y.join(2, 0, 2, 1), BAD);
        refused("join(0, 6, 2, 1)", y -> y.join(0, 6, 2, 1), BAD);
        refused("join(0, 2, 6, 1)", y -> y.join(0, 2, 6, 1), BAD);
        refused("join(0, 2, 2, 1)", y -> y.join(0, 2, 2, 1), BAD);
        refused("join(0, 0, 2, 10)", y -> y.join(0, 0, 2, 10), BAD);
        refused("join(0, 0, 1, 10)", y -> y.join(0, 0, 1, 10), BAD);
        refused("join(0, 1, 0, 3)", y -> y.join(0, 1, 0, 3), NO);
        leaves("join beyond 8", y -> {
            full(y);
            y.join(1, 0, 2, 1);
            y.join(1, 0, 4, 1);
        }, y -> y.join(1, 0, 5, 1), FULL);
    }

    private static void promise12Cut() {
        promise = 12;
        TwoSurveys x = new TwoSurveys();
        due("cut(0, 2)", x.cut(0, 2), 5);
        int[] left = {0, 1, 3, 4, 5};
        for (int s = 0; s < 5; s++) {
            for (int what = 0; what < 3; what++) {
                due("street(0, " + s + ", " + what + ")", x.street(0, s, what), STREETS0[left[s]][what]);
            }
        }
        due("the last one's number", x.street(0, 5, 0), BAD);
        due("the other survey", x.count(3), 6);
        due("cut(0, 4), the last", x.cut(0, 4), 4);
        due("cut(0, 4) again", x.cut(0, 4), BAD);
        due("cut(1, 0)", x.cut(1, 0), 5);
        for (int streets = 3; streets >= 0; streets--) {
            due("cut(0, 0)", x.cut(0, 0), streets);
        }
        due("cut(0, 0) of none", x.cut(0, 0), BAD);
        due("acts", x.count(6), 7);
        x.undo();
        due("undone", x.street(0, 0, 0), 3);
        for (int out : OUT_OF_ANY_RANGE) {
            refused("cut(" + out + ", 0)", y -> y.cut(out, 0), BAD);
            refused("cut(0, " + out + ")", y -> y.cut(0, out), BAD);
        }
        refused("cut(2, 0)", y -> y.cut(2, 0), BAD);
        refused("cut(0, 6)", y -> y.cut(0, 6), BAD);
    }

    private static void promise13Tune() {
        promise = 13;
        TwoSurveys x = new TwoSurveys();
        due("tune(0, 1)", x.tune(0, 1), 12);
        due("R", x.count(4), 1);
        due("N", x.count(5), 2);
        due("tune(0, 1) again", x.tune(0, 1), NO);
        due("tune(0, 20)", x.tune(0, 20), 1);
        due("tune(1, 0)", x.tune(1, 0), 2);
        due("N", x.count(5), 0);
        due("R", x.count(4), 20);
        due("tune(1, 3)", x.tune(1, 3), 0);
        due("tune(1, 3) again", x.tune(1, 3), NO);
        due("acts", x.count(6), 4);
        x.undo();
        due("undone", x.count(5), 0);
        for (int out : OUT_OF_ANY_RANGE) {
            refused("tune(" + out + ", 1)", y -> y.tune(out, 1), BAD);
            refused("tune(0, " + out + ")", y -> y.tune(0, out), BAD);
            refused("tune(1, " + out + ")", y -> y.tune(1, out), BAD);
        }
        refused("tune(2, 1)", y -> y.tune(2, 1), BAD);
        refused("tune(0, 0)", y -> y.tune(0, 0), BAD);
        refused("tune(0, 21)", y -> y.tune(0, 21), BAD);
        refused("tune(1, 4)", y -> y.tune(1, 4), BAD);
        refused("tune(0, 12)", y -> y.tune(0, 12), NO);
        refused("tune(1, 2)", y -> y.tune(1, 2), NO);
    }

    private static void promise14Undo() {
        promise = 14;
        TwoSurveys x = new TwoSurveys();
        type(x, "r1");
        for (int n = 1; n <= 10; n++) {
            due("move", x.move(0, 0, n + 10, 0), 1);
            due("acts", x.count(6), Math.min(n, 8));
        }
        x.shelve(0, 2, 1);
        type(x, ";");
        for (int n = 7; n >= 0; n--) {
            due("undo()", x.undo(), n);
            due("x", x.meeting(0, 0, 1), n + 12);
        }
        due("undo() of none", x.undo(), NO);
        due("shelf(0, 2)", x.shelf(0, 2), 1);
        due("letters", x.count(8), 3);
        due("a new act", x.move(0, 0, 5, 5), 1);
        due("its undo()", x.undo(), 0);
        due("x", x.meeting(0, 0, 1), 12);
        undoesEachKindOfAct();
        leaves("undo() of none", y -> y.keep(), TwoSurveys::undo, NO);
    }

    private static void undoesEachKindOfAct() {
        TwoSurveys x = new TwoSurveys();
        StringBuilder before = new StringBuilder();
        towns(x, before);
        x.move(1, 2, 0, 0);
        x.rename(0, 4, 1);
        x.name(1, 3, 2);
        x.join(0, 0, 5, 1);
        x.cut(1, 1);
        x.tune(0, 5);
        x.tune(1, 1);
        for (int n = 6; n >= 0; n--) {
            due("undo()", x.undo(), n);
        }
        StringBuilder after = new StringBuilder();
        towns(x, after);
        due("surveys", after.toString(), before.toString());
    }

    private static void promise15Belief() {
        promise = 15;
        String two = "a0,0,0;a0,10,0;b0,0,0;b0,10,0;s0,1,0;t0,1,0;";
        int[] ofEqual = {51712, 38784, 29088, 21816};
        int[] ofFar = {512, 384, 288, 216};
        for (int rounds = 0; rounds <= 3; rounds++) {
            TwoSurveys x = laid("r10;n" + rounds + ";" + two);
            due("belief(0, 0) after " + rounds, x.belief(0, 0), ofEqual[rounds]);
            due("belief(0, 1) after " + rounds, x.belief(0, 1), ofFar[rounds]);
        }
        // Of the two streets at meeting 0 of survey 0 each counts, but the street of survey 1 only once.
        TwoSurveys fork = laid("r10;n1;a0,0,0;a0,10,0;a0,8,0;b0,0,0;b0,9,0;s0,1,0;s2,0,0;t1,0,0;");
        due("belief(0, 0) at a fork of survey 0", fork.belief(0, 0), 45056);
        fork = laid("r10;n1;b0,0,0;b0,10,0;b0,8,0;a0,0,0;a0,9,0;t0,1,0;t2,0,0;s1,0,0;");
        due("belief(0, 0) at a fork of survey 1", fork.belief(0, 0), 45056);
        due("without streets", laid("r20;n3;a0,3,4;b0,0,0;").belief(0, 0), 512 * 376 / 8);
        TwoSurveys wide = laid("r10;n0;a2,0,0;b2,15,0;b2,9,12;b2,15,1;b0,10,0;b0,11,0;b1,3,4;b1,5,1;b3,6,0;");
        due("wide: at the reach", wide.belief(0, 0), 512);
        due("wide: aslant at the reach", wide.belief(0, 1), 512);
        due("wide: beyond the reach", wide.belief(0, 2), NONE);
        due("wide with plain: at the smaller reach", wide.belief(0, 3), 512);
        due("wide with plain: beyond it", wide.belief(0, 4), NONE);
        due("wide with firm: at the smaller reach", wide.belief(0, 5), 512 * 76);
        due("wide with firm: beyond it", wide.belief(0, 6), NONE);
        due("wide with first: at the smaller reach", wide.belief(0, 7), 512 * 65);
        TwoSurveys firm = laid("r1;n3;a1,4,4;b0,4,4;b1,4,5;");
        due("a reach of 0", firm.belief(0, 0), 512 * 2 / 8);
        due("beyond a reach of 0", firm.belief(0, 1), NONE);
        TwoSurveys crossed = laid("r10;n0;a1,60,60;a2,0,0;a1,60,60;b2,15,0;b1,60,60;");
        due("each meeting's own reach", crossed.belief(1, 0), 512);
        due("a meeting of survey 0 alone", crossed.belief(2, 0), NONE);
        due("no such meeting of survey 1", crossed.belief(0, 2), BAD);
        crossed = laid("r10;n0;b1,60,60;b2,0,0;b1,60,60;a2,15,0;a1,60,60;");
        due("each meeting's own reach", crossed.belief(0, 1), 512);
        due("a meeting of survey 1 alone", crossed.belief(0, 2), NONE);
        due("no such meeting of survey 0", crossed.belief(2, 0), BAD);
        TwoSurveys moved = new TwoSurveys();
        due("belief(0, 0)", moved.belief(0, 0), 67872);
        moved.move(0, 0, 60, 60);
        due("belief(0, 0) behind a move", moved.belief(0, 0), NONE);
        refused("belief(5, 5)", y -> y.belief(5, 5), NONE);
        for (int out : new int[] {-1, 6, 8, Integer.MIN_VALUE, Integer.MAX_VALUE}) {
            refused("belief(" + out + ", 0)", y -> y.belief(out, 0), BAD);
            refused("belief(0, " + out + ")", y -> y.belief(0, out), BAD);
        }
    }

    private static void matches(String text, int... want) {
        TwoSurveys x = laid(text);
        for (int i = 0; i < want.length; i++) {
            due("match(0, " + i + ") of " + text, x.match(0, i), want[i]);
            if (want[i] >= 0) {
                due("match(1, " + want[i] + ") of " + text, x.match(1, want[i]), i);
            }
        }
    }

    private static void promise16Match() {
        promise = 16;
        matches("n0;a0,5,5;a0,5,5;b0,5,5;b0,5,5;", 0, 1);
        matches("n0;a0,10,10;b0,10,12;b0,10,8;", 0);
        matches("n0;a0,10,12;a0,10,8;b0,10,10;", 0, NONE);
        matches("n0;a0,1,0;a0,3,0;b0,3,0;", NONE, 0);
        matches("n0;a0,1,0;a0,3,0;b0,3,0;b0,9,0;", 1, 0);
        matches("n0;r3;a0,1,0;a0,3,0;b0,3,0;b0,9,0;", NONE, 0);
        matches("n0;r1;a0,0,0;a0,9,9;b0,9,9;b0,0,0;", 1, 0);
        // The nearer one is matched without a round, the one with the like street after one.
        String streets = "a0,10,10;a0,10,20;b0,10,11;b0,10,8;b0,10,20;s0,1,0;t1,2,0;";
        matches("n0;r10;" + streets, 0, 2);
        matches("n1;r10;" + streets, 1, 2);
        TwoSurveys x = new TwoSurveys();
        for (int i = 0; i < 5; i++) {
            due("match(0, " + i + ")", x.match(0, i), i);
            due("match(1, " + i + ")", x.match(1, i), i);
        }
        refused("match(0, 5)", y -> y.match(0, 5), NONE);
        refused("match(1, 5)", y -> y.match(1, 5), NONE);
        for (int out : OUT_OF_ANY_RANGE) {
            refused("match(" + out + ", 0)", y -> y.match(out, 0), BAD);
            refused("match(0, " + out + ")", y -> y.match(0, out), BAD);
            refused("match(1, " + out + ")", y -> y.match(1, out), BAD);
        }
        refused("match(2, 0)", y -> y.match(2, 0), BAD);
        refused("match(0, 6)", y -> y.match(0, 6), BAD);
        refused("match(1, 6)", y -> y.match(1, 6), BAD);
    }

    private static final String FAR = "r2;n0;a0,0,0;a0,60,0;b0,0,0;b0,60,0;b0,20,0;b0,40,0;b0,20,9;b0,40,9;";

    private static void told(String text, int... want) {
        TwoSurveys x = laid(text);
        due("told(0, -1) of " + text, x.told(0, -1), want.length == 0 ? NONE : want.length - 1);
        for (int k = 0; k < 6; k++) {
            due("told(0, " + k + ") of " + text, x.told(0, k), k < want.length ? want[k] : NONE);
        }
    }

    private static void promise17Told() {
        promise = 17;
        told(FAR + "s0,1,0;t0,1,0;", 0, 1);
        told(FAR + "s1,0,0;t0,1,0;", 1, 0);
        told(FAR + "s0,1,0;t1,2,0;t2,0,0;t0,1,0;", 0, 1);
        told(FAR + "s0,1,0;t0,3,0;t3,1,0;t1,2,0;t2,0,0;", 0, 2, 1);
        told(FAR + "s1,0,0;t0,3,0;t3,1,0;t0,4,0;t4,1,0;", 1, 3, 0);
        told(FAR + "s0,1,0;t0,4,0;t4,5,0;t5,1,0;t2,3,0;", 0, 4, 5, 1);
        told(FAR + "s0,1,0;t0,3,0;t0,2,0;t3,5,0;t2,5,0;t2,4,0;t4,1,0;t5,1,0;", 0, 2, 4, 1);
        told(FAR + "s1,0,0;t0,3,0;t0,2,0;t3,5,0;t2,5,0;t2,4,0;t4,1,0;t5,1,0;", 1, 4, 2, 0);
        told(FAR + "s0,1,0;t0,4,0;t4,5,0;t5,1,0;t0,3,0;t3,1,0;", 0, 3, 1);
        told(FAR + "s0,1,0;t0,2,0;t2,3,0;t3,4,0;t4,1,0;");
        // The ends are matched with 2 and 1, so that 0 can be between.
        String between = "r2;n0;a0,0,0;a0,60,0;b0,20,0;b0,60,0;b0,0,0;b0,40,0;s0,1,0;";
        told(between + "t2,3,0;t3,1,0;t1,0,0;t0,2,0;", 2, 0, 1);
        told(between + "t2,3,0;t3,0,0;t0,1,0;", 2, 3, 0, 1);
        told(between + "t2,0,0;t0,3,0;t3,1,0;", 2, 0, 3, 1);
        told(FAR + "s0,1,0;t0,2,0;t3,1,0;");
        told(FAR + "s0,1,0;");
        told("r2;n0;a0,0,0;a0,60,0;b0,0,0;b0,30,0;s0,1,0;t0,1,0;");
        told("r2;n0;a0,0,0;a0,60,0;b0,0,0;b0,30,0;s1,0,0;t0,1,0;");
        TwoSurveys x = new TwoSurveys();
        due("told(5, -1) without a match", x.told(5, -1), NONE);
        due("told(3, -1)", x.told(3, -1), 2);
        x.cut(1, 4);
        due("told(3, -1) over the other way", x.told(3, -1), 3);
        due("told(3, 1)", x.told(3, 1), 0);
        refused("told(3, 3)", y -> y.told(3, 3), NONE);
        refused("told(3, 2147483647)", y -> y.told(3, Integer.MAX_VALUE), NONE);
        refused("told(5, 0)", y -> y.told(5, 0), NONE);
        refused("told(5, -2)", y -> y.told(5, -2), BAD);
        refused("told(0, -2)", y -> y.told(0, -2), BAD);
        refused("told(0, -2147483648)", y -> y.told(0, Integer.MIN_VALUE), BAD);
        refused("told(6, -1)", y -> y.told(6, -1), BAD);
        for (int out : OUT_OF_ANY_RANGE) {
            refused("told(" + out + ", 0)", y -> y.told(out, 0), BAD);
        }
    }

    private static void promise18Named() {
        promise = 18;
        due("its own name", laid(FAR + "s0,1,4;t0,1,5;").named(0), 4);
        due("its own name, not expressed", laid(FAR + "s0,1,4;").named(0), 4);
        due("the name of one street", laid(FAR + "s0,1,0;t0,1,5;").named(0), 5);
        due("the name of two streets", laid(FAR + "s0,1,0;t0,2,5;t2,1,5;").named(0), 5);
        due("the name of three streets", laid(FAR + "s0,1,0;t0,2,9;t2,3,9;t3,1,9;").named(0), 9);
        due("two names", laid(FAR + "s0,1,0;t0,2,5;t2,1,6;").named(0), 0);
        due("another first name", laid(FAR + "s0,1,0;t0,2,8;t2,3,9;t3,1,9;").named(0), 0);
        due("another second name", laid(FAR + "s0,1,0;t0,2,9;t2,3,8;t3,1,9;").named(0), 0);
        due("another third name", laid(FAR + "s0,1,0;t0,2,9;t2,3,9;t3,1,8;").named(0), 0);
        due("a name and none", laid(FAR + "s0,1,0;t0,2,0;t2,1,6;").named(0), 0);
        due("a name and none", laid(FAR + "s0,1,0;t0,2,6;t2,1,0;").named(0), 0);
        due("no name", laid(FAR + "s0,1,0;t0,1,0;").named(0), 0);
        due("not expressed", laid(FAR + "s0,1,0;t0,2,3;").named(0), 0);
        int[] want = {3, 6, 4, 7, 5, 0};
        TwoSurveys x = new TwoSurveys();
        for (int s = 0; s < 6; s++) {
            due("named(" + s + ")", x.named(s), want[s]);
        }
        refused("named(6)", y -> y.named(6), BAD);
        for (int out : OUT_OF_ANY_RANGE) {
            refused("named(" + out + ")", y -> y.named(out), BAD);
        }
    }

    private static void comes(String text, int i, int topX, int bottomX, int topY, int bottomY) {
        TwoSurveys x = laid(text);
        due("comes(" + i + ", 0) of " + text, x.comes(i, 0), EVEN + topX);
        due("comes(" + i + ", 1) of " + text, x.comes(i, 1), bottomX);
        due("comes(" + i + ", 2) of " + text, x.comes(i, 2), EVEN + topY);
        due("comes(" + i + ", 3) of " + text, x.comes(i, 3), bottomY);
    }

    private static void promise19Comes() {
        promise = 19;
        String corner = "r2;n0;a0,0,0;a0,10,0;a0,0,10;b0,0,0;b0,12,0;b0,0,11;";
        comes(corner + "a0,3,3;", 1, 12, 1, 0, 1);
        comes(corner + "a0,3,3;", 3, 18, 5, 33, 10);
        comes(corner + "a0,5,5;", 3, 6, 1, 11, 2);
        comes(corner + "a0,5,0;", 3, 6, 1, 0, 1);
        comes(corner + "a0,5,6;", 3, 5, 1, 7, 1);
        comes(corner + "a0,16,0;", 3, 18, 1, 0, 1);
        comes(corner + "a0,20,20;", 3, 22, 1, 20, 1);
        // On a corner of the triangle, with a meeting that is matched in its place.
        comes(corner + "a0,10,0;", 3, 12, 1, 0, 1);
        String turned = "r2;n0;a0,0,10;a0,10,0;a0,0,0;b0,0,11;b0,12,0;b0,0,0;";
        comes(turned + "a0,3,3;", 3, 18, 5, 33, 10);
        String square = "r2;n0;a0,0,0;a0,10,0;a0,10,10;a0,0,10;b0,0,0;b0,12,0;b0,10,10;b0,0,10;";
        comes(square + "a0,5,5;", 4, 5, 1, 5, 1);
        // The matches have other numbers than the corners, and none of them the inverse ones.
        String other = "r2;n0;a0,0,0;a0,10,0;a0,0,10;a0,3,3;b0,0,11;b0,60,60;b0,60,50;b0,0,0;b0,12,0;";
        comes(other, 3, 18, 5, 33, 10);
        String small = "r2;n0;a0,0,0;a0,60,0;a0,0,60;a0,10,0;b0,0,0;b0,60,0;b0,0,60;b0,12,0;";
        comes(small + "a0,1,1;", 4, 6, 5, 1, 1);
        // The small triangle is no better if one of its corners is not matched.
        comes("r2;n0;a0,0,0;a0,60,0;a0,0,60;a0,10,0;b0,0,0;b0,60,0;b0,0,58;a0,1,1;", 4, 1, 1, 29, 30);
        String line = "r2;n0;a0,0,0;a0,10,0;a0,20,0;b0,0,0;b0,10,0;b0,20,2;";
        comes(line + "a0,6,0;", 3, 6, 1, 0, 1);
        comes(line + "a0,16,0;", 3, 16, 1, 2, 1);
        comes("r2;n0;a0,0,0;a0,10,0;a0,5,9;b0,2,0;b0,10,1;", 2, 7, 1, 9, 1);
        comes("r3;n0;a0,2,9;a0,0,0;b0,0,8;", 1, -2, 1, -1, 1);
        comes("r2;n0;a0,1,9;a0,1,1;b0,0,1;", 0, 0, 1, 9, 1);
        comes("r2;n0;a0,58,60;a0,60,60;b0,60,60;b0,0,0;", 0, 58, 1, 60, 1);
        comes("r2;n0;a0,9,0;b0,60,60;", 0, 9, 1, 0, 1);
        comes("r20;n3;a0,0,7;b0,0,0;", 0, 0, 1, 0, 1);
        TwoSurveys x = new TwoSurveys();
        due("comes(5, 2)", x.comes(5, 2), 100029);
        for (int out : OUT_OF_ANY_RANGE) {
            refused("comes(" + out + ", 0)", y -> y.comes(out, 0), BAD);
            refused("comes(5, " + out + ")", y -> y.comes(5, out), BAD);
        }
        refused("comes(6, 0)", y -> y.comes(6, 0), BAD);
        refused("comes(0, 4)", y -> y.comes(0, 4), BAD);
    }

    private static void whole(String text, int what, int want) {
        due("whole(" + what + ") of " + text, laid(text).whole(what), want);
    }

    private static void promise20Whole() {
        promise = 20;
        whole("r3;n0;a0,0,5;a0,20,5;a0,10,6;b0,0,5;b0,20,5;b0,10,4;", 1, 1);
        whole("r3;n0;a0,0,5;a0,10,6;a0,20,5;b0,0,5;b0,20,5;b0,10,4;", 1, 1);
        whole("r3;n0;a0,0,5;a0,20,5;a0,10,6;b0,0,5;b0,20,5;b0,10,5;", 1, 0);
        whole("r3;n0;a0,0,5;a0,20,5;a0,10,5;b0,0,5;b0,20,5;b0,10,4;", 1, 0);
        whole("r3;n0;a0,0,5;a0,20,5;a0,10,4;b0,0,5;b0,20,5;b0,10,5;", 1, 0);
        whole("r3;n0;a0,0,5;a0,20,5;a0,10,5;b0,0,5;b0,20,5;b0,10,6;", 1, 0);
        whole("r3;n0;a0,0,5;a0,20,5;a0,10,6;b0,0,5;b0,20,5;b0,10,8;", 1, 0);
        whole("r3;n0;a0,0,5;a0,20,5;a0,10,6;a0,11,6;b0,0,5;b0,20,5;b0,10,4;b0,12,4;", 1, 4);
        // The matches have other numbers, and the inverse ones have another orientation.
        whole("r3;n0;a0,0,5;a0,20,5;a0,10,6;b0,60,60;b0,10,4;b0,0,5;b0,20,5;", 1, 1);
        whole("r3;n0;a0,60,60;a0,10,4;a0,0,5;a0,20,5;b0,0,5;b0,20,5;b0,10,6;", 1, 1);
        whole("r3;n0;a0,40,40;a0,0,5;a0,20,5;a0,10,8;b0,10,7;b0,0,5;b0,20,5;", 1, 0);
        // A meeting that is not matched is in no triple, whichever it is.
        for (String unmatched : new String[] {"a0,10,6;a0,0,5;a0,20,5;", "a0,20,5;a0,10,6;a0,0,5;",
            "a0,0,5;a0,20,5;a0,10,6;"}) {
            whole("r3;n0;" + unmatched + "b0,0,5;b0,20,5;b0,60,60;", 1, 0);
            whole("r3;n0;" + unmatched + "b0,60,60;b0,0,5;b0,20,5;", 1, 0);
            whole("r3;n0;" + unmatched + "b0,0,5;b0,60,60;b0,20,5;", 1, 0);
        }
        // The smallest triangles, turned into larger ones and back.
        whole("r1;n0;a0,0,0;a0,20,19;a0,39,37;b0,0,0;b0,20,18;b0,39,37;", 1, 1);
        whole("r1;n0;a0,0,0;a0,20,18;a0,39,37;b0,0,0;b0,20,19;b0,39,37;", 1, 1);
        whole("r1;n0;a0,39,37;a0,20,19;a0,0,0;b0,0,0;b0,20,18;b0,39,37;", 1, 1);
        whole("r1;n0;a0,39,37;a0,20,18;a0,0,0;b0,0,0;b0,20,19;b0,39,37;", 1, 1);
        String some = "r1;n0;a0,0,0;a0,9,0;a0,20,0;a0,40,0;b0,0,9;b0,20,0;b0,0,0;";
        whole(some, 0, 2);
        whole(some, 3, 10);
        whole(some, 4, 1);
        whole(some, 2, 1);
        String all = "a0,1,1;".repeat(8) + "b0,1,1;".repeat(8);
        whole(all, 0, 8);
        whole(all, 1, 0);
        whole(all, 2, 1);
        whole(all, 3, 0);
        String apart = "r1;" + "a0,1,1;".repeat(8) + "b0,9,9;".repeat(8);
        whole(apart, 0, 0);
        whole(apart, 2, 1);
        whole(apart, 3, 255);
        whole(apart, 4, 255);
        String ways = "r2;n0;a0,0,0;a0,60,0;a0,30,9;a0,30,0;b0,0,0;b0,60,0;b0,30,0;s0,1,0;s0,3,0;s3,1,0;s1,2,0;";
        whole(ways, 5, 0);
        whole(ways + "t0,2,0;", 5, 1);
        whole(ways + "t0,2,0;t2,1,0;", 5, 3);
        TwoSurveys x = new TwoSurveys();
        int[] want = {5, 0, 1, 32, 32, 5};
        for (int what = 0; what < 6; what++) {
            due("whole(" + what + ")", x.whole(what), want[what]);
        }
        refused("whole(6)", y -> y.whole(6), BAD);
        for (int out : OUT_OF_ANY_RANGE) {
            refused("whole(" + out + ")", y -> y.whole(out), BAD);
        }
    }

    private static void promise21Shelve() {
        promise = 21;
        TwoSurveys x = new TwoSurveys();
        due("shelve(0, 0, 0)", x.shelve(0, 0, 0), 1);
        due("shelve(0, 3, 5)", x.shelve(0, 3, 5), 1);
        due("shelve(1, 0, 8)", x.shelve(1, 0, 8), 1);
        due("shelve(1, 3, 13)", x.shelve(1, 3, 13), 1);
        due("shelve(2, 0, 5)", x.shelve(2, 0, 5), 1);
        due("shelve(2, 3, 13)", x.shelve(2, 3, 13), 1);
        due("things", x.count(9), 6);
        due("shelve in place of another", x.shelve(2, 0, 8), 1);
        due("shelf(2, 0)", x.shelf(2, 0), 8);
        due("the same thing again", x.shelve(2, 0, 8), 1);
        due("things", x.count(9), 6);
        due("acts", x.count(6), 0);
        TwoSurveys eight = laid("a0,1,1;".repeat(8) + "b0,1,1;"
                + "s0,1,0;s0,2,0;s0,3,0;s0,4,0;s0,5,0;s0,6,0;s0,7,0;s1,2,0;");
        due("the last meeting", eight.shelve(2, 1, 7), 1);
        due("the last street", eight.shelve(2, 2, 15), 1);
        due("no thing 16", eight.shelve(2, 2, 16), BAD);
        TwoSurveys few = laid("a0,1,1;b0,1,1;b0,2,2;t0,1,0;");
        due("a meeting of survey 1 alone", few.shelve(0, 0, 1), BAD);
        due("a street of survey 1 alone", few.shelve(1, 0, 8), BAD);
        due("BAD comes before NO", few.shelve(0, 0, 8), BAD);
        refused("shelve(0, 0, 8)", y -> y.shelve(0, 0, 8), NO);
        refused("shelve(0, 0, 13)", y -> y.shelve(0, 0, 13), NO);
        refused("shelve(1, 3, 0)", y -> y.shelve(1, 3, 0), NO);
        refused("shelve(1, 3, 5)", y -> y.shelve(1, 3, 5), NO);
        for (int shelf = 0; shelf < 3; shelf++) {
            int on = shelf;
            for (int thing : new int[] {-1, 6, 7, 14, 15, 16, Integer.MIN_VALUE, Integer.MAX_VALUE}) {
                refused("shelve(" + on + ", 0, " + thing + ")", y -> y.shelve(on, 0, thing), BAD);
            }
        }
        for (int out : OUT_OF_ANY_RANGE) {
            refused("shelve(" + out + ", 0, 0)", y -> y.shelve(out, 0, 0), BAD);
            refused("shelve(0, " + out + ", 0)", y -> y.shelve(0, out, 0), BAD);
        }
        refused("shelve(3, 0, 0)", y -> y.shelve(3, 0, 0), BAD);
        refused("shelve(0, 4, 0)", y -> y.shelve(0, 4, 0), BAD);
        refused("shelve(2, 4, 8)", y -> y.shelve(2, 4, 8), BAD);
    }

    private static void promise22Shelf() {
        promise = 22;
        TwoSurveys x = new TwoSurveys();
        for (int n = 0; n < 12; n++) {
            int thing = n / 4 == 1 || n > 9 ? 8 + n % 4 : n % 4;
            due("shelve", x.shelve(n / 4, n % 4, thing), 1);
        }
        for (int n = 0; n < 12; n++) {
            int thing = n / 4 == 1 || n > 9 ? 8 + n % 4 : n % 4;
            due("shelf(" + n / 4 + ", " + n % 4 + ")", x.shelf(n / 4, n % 4), thing);
        }
        TwoSurveys stays = new TwoSurveys();
        stays.keep();
        stays.cut(0, 0);
        stays.shelve(1, 2, 12);
        stays.shelve(0, 2, 5);
        stays.cut(0, 4);
        due("shelf(1, 2) behind a cut", stays.shelf(1, 2), 12);
        stays.undo();
        due("shelf(1, 2) behind an undo", stays.shelf(1, 2), 12);
        stays.back();
        due("shelf(1, 2) behind a back", stays.shelf(1, 2), 12);
        due("lay() of nothing", stays.lay(), NO);
        due("shelf(1, 2) behind a lay that is refused", stays.shelf(1, 2), 12);
        type(stays, "a0,1,1;b0,1,1;");
        due("lay()", stays.lay(), 2);
        due("shelf(1, 2) behind a lay", stays.shelf(1, 2), NONE);
        due("shelf(0, 2) behind a lay", stays.shelf(0, 2), NONE);
        for (int out : OUT_OF_ANY_RANGE) {
            refused("shelf(" + out + ", 0)", y -> y.shelf(out, 0), BAD);
            refused("shelf(0, " + out + ")", y -> y.shelf(0, out), BAD);
        }
        refused("shelf(3, 0)", y -> y.shelf(3, 0), BAD);
        refused("shelf(0, 4)", y -> y.shelf(0, 4), BAD);
        refused("shelf(2, 4)", y -> y.shelf(2, 4), BAD);
        refused("shelf(0, 1)", y -> y.shelf(0, 1), NONE);
        refused("shelf(0, 0)", y -> y.shelf(0, 0), 3);
    }

    /** Makes the day's moves by move() on another object and compares. */
    private static void day(String text, int z, int n) {
        TwoSurveys x = text.isEmpty() ? new TwoSurveys() : laid(text);
        TwoSurveys twin = text.isEmpty() ? new TwoSurveys() : laid(text);
        for (int k = 0; k < n; k++) {
            BigInteger root = BigInteger.valueOf(7919L * z + 6151L * k + 1);
            int d = root.multiply(root).mod(BigInteger.valueOf(65521)).intValueExact();
            int survey = d % 2;
            int there = twin.move(survey, d / 2 % twin.count(survey), d / 16 % 61, d / 256 % 61);
            due("move of the day", there == 1 || there == NO, true);
        }
        due("day(" + z + ", " + n + ", 0) of " + text, x.day(z, n, 0), twin.whole(0));
        due("day(" + z + ", " + n + ", 1) of " + text, x.day(z, n, 1), twin.whole(1));
    }

    private static void promise23Day() {
        promise = 23;
        String wide = "r20;" + "a2,30,30;".repeat(7) + "b2,31,31;".repeat(8) + "s0,1,1;t0,1,2;";
        for (int z : new int[] {0, 1, 7, 811, 5000, 9998, 9999}) {
            for (int n : new int[] {1, 2, 7, 19, 20}) {
                day("", z, n);
                day(wide, z, n);
                day("r20;n1;a2,30,30;b2,31,31;", z, n);
            }
        }
        refused("day(7, 20, 0)", y -> y.day(7, 20, 0) >= 0 ? 1 : 0, 1);
        refused("day(9999, 1, 1)", y -> y.day(9999, 1, 1) >= 0 ? 1 : 0, 1);
        for (int out : OUT_OF_ANY_RANGE) {
            refused("day(" + out + ", 1, 0)", y -> y.day(out, 1, 0), BAD);
            refused("day(0, " + out + ", 0)", y -> y.day(0, out, 0), BAD);
            refused("day(0, 1, " + out + ")", y -> y.day(0, 1, out), BAD);
        }
        refused("day(10000, 1, 0)", y -> y.day(10000, 1, 0), BAD);
        refused("day(0, 0, 0)", y -> y.day(0, 0, 0), BAD);
        refused("day(0, 21, 0)", y -> y.day(0, 21, 0), BAD);
        refused("day(0, 1, 2)", y -> y.day(0, 1, 2), BAD);
    }

    private static void promise24Keep() {
        promise = 24;
        TwoSurveys x = new TwoSurveys();
        x.move(0, 0, 1, 1);
        due("keep()", x.keep(), 1);
        due("acts", x.count(6), 1);
        due("kept", x.count(7), 1);
        x.tune(0, 3);
        due("keep()", x.keep(), 2);
        x.undo();
        due("keep() of a third", x.keep(), FULL);
        due("undo() behind keep()", x.undo(), 0);
        due("back()", x.back(), 1);
        due("R", x.count(4), 3);
        due("x", x.meeting(0, 0, 1), 1);
        due("keep() again", x.keep(), 2);
        leaves("keep() of a third", y -> {
            full(y);
            y.keep();
            y.tune(1, 0);
        }, TwoSurveys::keep, FULL);
    }

    private static void promise25Back() {
        promise = 25;
        TwoSurveys x = new TwoSurveys();
        x.keep();
        x.move(0, 0, 1, 2);
        x.rename(1, 0, 3);
        x.name(0, 0, 7);
        x.join(0, 0, 5, 1);
        x.cut(1, 2);
        x.tune(0, 4);
        x.tune(1, 1);
        x.keep();
        x.tune(0, 5);
        x.shelve(0, 0, 2);
        type(x, "r1");
        due("back()", x.back(), 1);
        due("undo() behind back()", x.undo(), NO);
        due("acts", x.count(6), 0);
        StringBuilder told = new StringBuilder();
        towns(x, told);
        due("surveys", told.toString(), " R 4 N 1 m0,1,2 m0,20,6 m0,34,8 m1,6,24 m0,21,25 m2,40,26"
                + " s0,1,7 s1,2,0 s0,3,4 s1,4,0 s3,4,5 s4,5,0 s0,5,1"
                + " m3,8,7 m0,22,5 m0,33,11 m0,9,28 m0,24,27 m0,30,18 s0,1,3 s1,2,6 s1,5,7 s5,4,7 s3,4,5");
        due("an act behind back()", x.cut(0, 0), 6);
        due("back()", x.back(), 0);
        due("back() of none", x.back(), NO);
        told = new StringBuilder();
        StringBuilder initial = new StringBuilder();
        towns(x, told);
        towns(new TwoSurveys(), initial);
        due("surveys", told.toString(), initial.toString());
        due("shelf(0, 0)", x.shelf(0, 0), 2);
        due("letters", x.count(8), 2);
        leaves("back() of none", y -> {
            full(y);
            y.back();
            y.cut(0, 3);
        }, TwoSurveys::back, NO);
    }

    private static void promise26Count() {
        promise = 26;
        TwoSurveys x = laid("r7;n1;a0,0,0;a0,1,1;a0,2,2;b0,0,0;b0,1,1;b0,2,2;b0,3,3;s0,1,0;s1,2,0;t0,1,0;t0,2,0;t0,3,0;");
        int[] want = {3, 4, 2, 3, 7, 1, 0, 0, 90, 0};
        for (int what = 0; what < 10; what++) {
            due("count(" + what + ")", x.count(what), want[what]);
        }
        x.keep();
        x.cut(0, 0);
        x.cut(1, 0);
        x.keep();
        x.tune(0, 9);
        x.tune(1, 3);
        x.shelve(2, 2, 2);
        x.shelve(1, 0, 8);
        x.shelve(0, 0, 0);
        x.write(32);
        want = new int[] {3, 4, 1, 2, 9, 3, 4, 2, 91, 3};
        for (int what = 0; what < 10; what++) {
            due("count(" + what + ") then", x.count(what), want[what]);
        }
        x.undo();
        due("acts", x.count(6), 3);
        x.back();
        due("acts behind back()", x.count(6), 0);
        due("kept", x.count(7), 1);
        refused("count(10)", y -> y.count(10), BAD);
        for (int out : OUT_OF_ANY_RANGE) {
            refused("count(" + out + ")", y -> y.count(out), BAD);
        }
    }
}
