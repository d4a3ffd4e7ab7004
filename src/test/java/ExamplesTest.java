import java.io.IOException;
import java.nio.file.Files;
import java.nio.file.Path;

/** The document's examples 1 to 5, each on a new object; at last that the document gives just these, in this order. */
public final class ExamplesTest {
    private static final Path DOCUMENT = Path.of("../shared/DOC.md");
    private static final String[] TITLES = {"Beliefs, matches, and a meeting that is transferred", "Acts are undone",
        "A text with a fault", "Shelves, and streets removed and added", "States that are kept"};

    private static final StringBuilder[] RUNS = new StringBuilder[TITLES.length];
    private static int wrong = 0;

    /** The call is told with the number of its example: "1: call". */
    private static void due(String call, int got, int want) {
        if (got != want) {
            wrong++;
            System.out.println(call + " answered " + got + ", due is " + want);
        }
        StringBuilder run = RUNS[call.charAt(0) - '1'];
        run.append(run.isEmpty() ? "" : "; ").append(call.substring(3)).append(" = ").append(want);
    }

    public static void main(String[] args) throws IOException {
        for (int n = 0; n < RUNS.length; n++) {
            RUNS[n] = new StringBuilder();
        }
        beliefsMatchesAndTransfer();
        actsAreUndone();
        textWithFault();
        shelvesAndStreets();
        statesThatAreKept();
        compareWithDocument();
        if (wrong != 0) {
            System.exit(1);
        }
    }

    private static void compareWithDocument() throws IOException {
        StringBuilder want = new StringBuilder("Each of them begins with a new object; the results are given behind the"
                + " calls.");
        for (int n = 0; n < RUNS.length; n++) {
            want.append(' ').append(n + 1).append(". ").append(TITLES[n]).append(": ").append(RUNS[n]).append('.');
        }
        String document = Files.readString(DOCUMENT).replaceAll("\\s+", " ");
        if (!document.contains(" Examples: " + want + " The constructor and the methods follow")) {
            wrong++;
            System.out.println("the examples of the document are other ones than: " + want);
        }
    }

    private static void beliefsMatchesAndTransfer() {
        TwoSurveys x = new TwoSurveys();
        due("1: belief(0, 0)", x.belief(0, 0), 67872);
        due("1: match(0, 0)", x.match(0, 0), 0);
        due("1: match(1, 5)", x.match(1, 5), -4);
        due("1: whole(0)", x.whole(0), 5);
        due("1: whole(1)", x.whole(1), 0);
        due("1: whole(3)", x.whole(3), 32);
        due("1: told(0, -1)", x.told(0, -1), 1);
        due("1: told(3, 1)", x.told(3, 1), 5);
        due("1: named(1)", x.named(1), 6);
        due("1: named(3)", x.named(3), 7);
        due("1: comes(5, 0)", x.comes(5, 0), 100039);
        due("1: comes(5, 1)", x.comes(5, 1), 1);
        due("1: whole(2)", x.whole(2), 1);
        due("1: whole(5)", x.whole(5), 5);
        due("1: meeting(0, 3, 3)", x.meeting(0, 3, 3), 6);
        due("1: belief(0, 4)", x.belief(0, 4), -4);
    }

    private static void actsAreUndone() {
        TwoSurveys x = new TwoSurveys();
        due("2: move(0, 0, 60, 60)", x.move(0, 0, 60, 60), 1);
        due("2: match(0, 0)", x.match(0, 0), -4);
        due("2: comes(0, 2)", x.comes(0, 2), 100062);
        due("2: comes(0, 3)", x.comes(0, 3), 1);
        due("2: undo()", x.undo(), 0);
        due("2: tune(1, 3)", x.tune(1, 3), 2);
        due("2: belief(0, 0)", x.belief(0, 0), 67312);
        due("2: tune(0, 1)", x.tune(0, 1), 12);
        due("2: whole(0)", x.whole(0), 0);
        due("2: comes(0, 0)", x.comes(0, 0), 100005);
        due("2: comes(0, 1)", x.comes(0, 1), 1);
        due("2: undo()", x.undo(), 1);
        due("2: undo()", x.undo(), 0);
        due("2: undo()", x.undo(), -2);
        due("2: count(4)", x.count(4), 12);
        due("2: move(0, 0, 5, 5)", x.move(0, 0, 5, 5), -2);
    }

    private static void textWithFault() {
        TwoSurveys x = new TwoSurveys();
        due("3: write(97)", x.write(97), 1);
        due("3: write(48)", x.write(48), 2);
        due("3: write(44)", x.write(44), 3);
        due("3: write(49)", x.write(49), 4);
        due("3: write(44)", x.write(44), 5);
        due("3: write(49)", x.write(49), 6);
        due("3: write(59)", x.write(59), 7);
        due("3: write(98)", x.write(98), 8);
        due("3: write(49)", x.write(49), 9);
        due("3: write(44)", x.write(44), 10);
        due("3: write(50)", x.write(50), 11);
        due("3: fault()", x.fault(), 7);
        due("3: lay()", x.lay(), -2);
        due("3: count(0)", x.count(0), 6);
        due("3: wipe()", x.wipe(), 11);
        due("3: fault()", x.fault(), -4);
    }

    private static void shelvesAndStreets() {
        TwoSurveys x = new TwoSurveys();
        due("4: shelve(0, 0, 5)", x.shelve(0, 0, 5), 1);
        due("4: shelve(0, 1, 8)", x.shelve(0, 1, 8), -2);
        due("4: shelve(1, 1, 8)", x.shelve(1, 1, 8), 1);
        due("4: shelve(2, 3, 13)", x.shelve(2, 3, 13), 1);
        due("4: shelve(2, 3, 14)", x.shelve(2, 3, 14), -1);
        due("4: shelve(3, 0, 0)", x.shelve(3, 0, 0), -1);
        due("4: cut(0, 5)", x.cut(0, 5), 5);
        due("4: shelf(2, 3)", x.shelf(2, 3), 13);
        due("4: shelf(0, 1)", x.shelf(0, 1), -4);
        due("4: count(9)", x.count(9), 3);
        due("4: join(0, 4, 5, 2)", x.join(0, 4, 5, 2), 6);
        due("4: join(0, 5, 4, 2)", x.join(0, 5, 4, 2), -2);
        due("4: join(0, 2, 2, 0)", x.join(0, 2, 2, 0), -1);
        due("4: day(7, 20, 0)", x.day(7, 20, 0), 3);
        due("4: day(7, 20, 1)", x.day(7, 20, 1), 0);
        due("4: day(0, 21, 0)", x.day(0, 21, 0), -1);
    }

    private static void statesThatAreKept() {
        TwoSurveys x = new TwoSurveys();
        due("5: keep()", x.keep(), 1);
        due("5: cut(1, 0)", x.cut(1, 0), 5);
        due("5: told(0, -1)", x.told(0, -1), -4);
        due("5: keep()", x.keep(), 2);
        due("5: keep()", x.keep(), -3);
        due("5: cut(1, 0)", x.cut(1, 0), 4);
        due("5: back()", x.back(), 1);
        due("5: back()", x.back(), 0);
        due("5: back()", x.back(), -2);
        due("5: street(1, 0, 2)", x.street(1, 0, 2), 3);
        due("5: told(0, 0)", x.told(0, 0), 0);
        due("5: told(0, 5)", x.told(0, 5), -4);
        due("5: told(0, -2)", x.told(0, -2), -1);
        due("5: rename(1, 0, 1)", x.rename(1, 0, 1), 0);
        due("5: rename(1, 0, 1)", x.rename(1, 0, 1), -2);
        due("5: name(0, 1, 9)", x.name(0, 1, 9), 0);
    }
}
