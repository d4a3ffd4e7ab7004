import java.math.BigDecimal;
import java.math.BigInteger;
import java.util.ArrayDeque;
import java.util.ArrayList;
import java.util.Arrays;
import java.util.Comparator;
import java.util.Deque;
import java.util.HashMap;
import java.util.HashSet;
import java.util.List;
import java.util.Map;
import java.util.Set;
import java.util.TreeMap;
import java.util.regex.Matcher;
import java.util.regex.Pattern;

/**
 * Compares many long runs of calls with a second writing of the document, which uses the Java library
 * and other ways to compute: sorted pairs, decimal fractions, all ways, regular expressions.
 * An argument gives another number of runs.
 */
public final class ModelTest {
    private static final int BAD = -1, NO = -2, FULL = -3, NONE = -4, EVEN = 100000;
    private static final int CALLS = 512;
    private static final int MOST_TOLD = 20;
    private static final String NAMES = "write wipe fault lay meeting street move rename name join cut tune undo"
            + " belief match told named comes whole shelve shelf day keep back count";

    private static int wrong = 0;
    private static long dice = 20261119L;
    private static final Map<String, Integer> seen = new TreeMap<>();

    public static void main(String[] args) {
        int runs = args.length > 0 ? Integer.parseInt(args[0]) : 400;
        for (int run = 0; run < runs && wrong < MOST_TOLD; run++) {
            new Run(run).go();
        }
        reachedEverything();
        if (args.length > 0) {
            seen.forEach((answer, times) -> System.out.println(answer + ": " + times));
        }
        if (wrong != 0) {
            System.exit(1);
        }
    }

    /**
     * A comparison that never meets an error code or a rare case would show nothing about it.
     * (That whole(2) is 0 can't be met: among pairs of one belief, the smallest j goes to the smallest i
     * that has a pair with it in either order, and so on with the others.)
     */
    private static void reachedEverything() {
        String rare = "write BAD, write FULL, fault NONE, fault found, lay NO, lay done, meeting BAD, street BAD,"
                + " move BAD, move NO, rename BAD, rename NO, name BAD, name NO, join BAD, join NO, join FULL,"
                + " cut BAD, tune BAD, tune NO, undo NO, belief BAD, belief NONE, match BAD, match NONE, told BAD,"
                + " told NONE, told 3 streets, named BAD, named 0, comes BAD, comes by a triangle, comes below 0,"
                + " whole BAD, whole turned, shelve BAD, shelve NO, shelf BAD, shelf NONE, day BAD,"
                + " day turned, keep FULL, back NO, count BAD";
        for (String answer : rare.split(", ")) {
            if (!seen.containsKey(answer.trim())) {
                wrong++;
                System.out.println("no run has met: " + answer.trim());
            }
        }
    }

    private static int roll(int below) {
        dice = dice * 6364136223846793005L + 1442695040888963407L;
        return (int) ((dice >>> 33) % below);
    }

    private static boolean oneIn(int many) {
        return roll(many) == 0;
    }

    private static int pick(int... values) {
        return values[roll(values.length)];
    }

    /** One object and one model, which are given the same calls. */
    private static final class Run {
        final int number;
        final TwoSurveys real = new TwoSurveys();
        final Model model = new Model();
        final List<String> calls = new ArrayList<>();
        int box = 60;

        Run(int number) {
            this.number = number;
        }

        void go() {
            if (!oneIn(4)) {
                typeTown();
            }
            while (calls.size() < CALLS && wrong < MOST_TOLD) {
                if (oneIn(60)) {
                    typeScrap();
                } else {
                    callAnything();
                }
            }
        }

        void typeTown() {
            String town = oneIn(2) ? scatteredTown() : denseTown();
            for (int i = 0; i < town.length(); i++) {
                call("write", town.charAt(i));
            }
            call("fault");
            call("lay");
            if (oneIn(3)) {
                call("keep");
            }
            askEverything();
        }

        void askEverything() {
            for (int i = 0; i < 8; i++) {
                for (int j = 0; j < 8; j++) {
                    call("belief", i, j);
                }
                call("match", 0, i);
                call("match", 1, i);
                for (int what = 0; what < 4; what++) {
                    call("comes", i, what);
                }
                for (int k = -1; k < 4; k++) {
                    call("told", i, k);
                }
                call("named", i);
            }
            for (int what = 0; what < 6; what++) {
                call("whole", what);
            }
        }

        /** Dense towns have many equal beliefs, and triples that are turned. */
        String denseTown() {
            box = pick(2, 4, 8, 12, 20, 60);
            int[] meetings = {pick(1, 2, 3, 5, 6, 7, 8, 8), pick(1, 2, 3, 5, 6, 7, 8, 8)};
            boolean plain = oneIn(2);
            boolean near = !oneIn(3);
            List<String> items = new ArrayList<>();
            if (!oneIn(4)) {
                items.add("r" + pick(1, 2, 5, 10, 15, 16, 20, 1 + roll(20)) + ";");
            }
            if (!oneIn(4)) {
                items.add("n" + roll(4) + ";");
            }
            int[][] spots = new int[8][2];
            for (int survey = 0; survey < 2; survey++) {
                for (int i = 0; i < meetings[survey]; i++) {
                    if (survey == 0 || !near || i >= meetings[0]) {
                        spots[i] = new int[] {roll(box + 1), roll(box + 1)};
                    }
                    int x = survey == 0 || !near ? spots[i][0] : Math.min(60, spots[i][0] + roll(4));
                    int y = survey == 0 || !near ? spots[i][1] : Math.max(0, spots[i][1] - roll(4));
                    items.add((survey == 0 ? "a" : "b") + (plain ? 0 : roll(4)) + "," + x + "," + y + ";");
                }
            }
            for (int survey = 0; survey < 2; survey++) {
                streets(survey, meetings[survey], items);
            }
            String town = cutTo200(items);
            return oneIn(8) ? spoiled(town) : town;
        }

        /** Wide towns, surveyed twice but for some meetings, have triangles and ways of several streets. */
        String scatteredTown() {
            box = pick(20, 40, 60);
            int meetings = 4 + roll(5);
            int left = roll(meetings);
            List<String> items = new ArrayList<>(List.of("r" + (3 + roll(10)) + ";"));
            List<String> others = new ArrayList<>();
            for (int i = 0; i < meetings; i++) {
                boolean inside = i == left && !oneIn(4);
                int x = inside ? box / 4 + roll(box / 2) : roll(box + 1);
                int y = inside ? box / 4 + roll(box / 2) : roll(box + 1);
                items.add("a" + pick(0, 0, 2, 3) + "," + x + "," + y + ";");
                if (i != left && !oneIn(8)) {
                    others.add(roll(others.size() + 1),
                            "b" + pick(0, 0, 2) + "," + Math.min(60, x + roll(4)) + "," + Math.max(0, y - roll(4)) + ";");
                }
            }
            items.addAll(others);
            int name = roll(10);
            for (int j = 1; j < others.size(); j++) {
                items.add("t" + (oneIn(2) ? j + "," + (j - 1) : j - 1 + "," + j) + "," + (oneIn(5) ? roll(10) : name) + ";");
            }
            streets(0, meetings, items);
            return cutTo200(items);
        }

        void streets(int survey, int meetings, List<String> items) {
            Set<Integer> between = new HashSet<>();
            int wanted = roll(9);
            boolean oneName = oneIn(2);
            for (int s = 0; s < wanted && meetings > 1; s++) {
                int u = roll(meetings);
                int v = roll(meetings);
                if (u != v && between.add(Math.min(u, v) * 8 + Math.max(u, v))) {
                    int name = survey == 0 && oneIn(2) ? 0 : oneName ? 7 : roll(10);
                    items.add((survey == 0 ? "s" : "t") + u + "," + v + "," + name + ";");
                }
            }
        }

        String cutTo200(List<String> items) {
            StringBuilder town = new StringBuilder();
            for (String item : items) {
                if (town.length() + item.length() <= 200 || oneIn(50)) {
                    town.append(item);
                }
            }
            return town.toString();
        }

        String spoiled(String town) {
            char[] letters = town.toCharArray();
            letters[roll(letters.length)] = (char) (oneIn(2) ? 48 + roll(12) : 32 + roll(95));
            return new String(letters);
        }

        /** A few letters that make an item, or almost. */
        void typeScrap() {
            if (oneIn(2)) {
                call("wipe");
            }
            String[] scraps = {"a0,1,1;", "b3,60,60;", "r20;", "n3;", "a", "b1,2", "s0,1,", "t0,1,10;", "r21;", "n4;",
                "a4,1,1;", "b0,61,0;", "a0,0,61;", "s0,0,1;", "s0,1,3;", "t1,0,3;", "s7,0,0;", "r0;", "r00;", "r007;",
                "n02;", "a00,01,02;", "x1;", ";", " ", "a0;", "a0,1,1,1;", "r1,2;", "a,1,1;", "a0,1,1", "A0,1,1;"};
            String scrap = scraps[roll(scraps.length)];
            for (int i = 0; i < scrap.length(); i++) {
                call("write", scrap.charAt(i));
            }
            call("fault");
            if (oneIn(4)) {
                call("lay");
            }
        }

        void callAnything() {
            String[] names = NAMES.split(" ");
            String name = names[roll(names.length)];
            switch (name) {
                case "wipe":
                    if (oneIn(6)) {
                        call(name);
                    }
                    break;
                case "write": call(name, oneIn(3) ? pick(31, 127, -1, 32, 126, Integer.MIN_VALUE) : 32 + roll(95)); break;
                case "fault":
                case "lay":
                case "undo":
                case "keep":
                case "back": call(name); break;
                case "meeting": call(name, survey(), thing(), near(4)); break;
                case "street": call(name, survey(), thing(), near(2)); break;
                case "move": call(name, survey(), thing(), place(), place()); break;
                case "rename": call(name, survey(), thing(), near(3)); break;
                case "name": call(name, survey(), thing(), near(9)); break;
                case "join": call(name, survey(), thing(), thing(), near(9)); break;
                case "cut":
                    if (oneIn(2)) {
                        call(name, survey(), thing());
                    }
                    break;
                case "tune": call(name, near(1), oneIn(2) ? roll(5) - 1 : pick(0, 1, 5, 10, 12, 15, 20, 21)); break;
                case "belief": call(name, thing(), thing()); break;
                case "match": call(name, survey(), thing()); break;
                case "told": call(name, thing(), roll(7) - 2); break;
                case "named": call(name, thing()); break;
                case "comes": call(name, thing(), near(3)); break;
                case "whole": call(name, near(5)); break;
                case "shelve": call(name, near(2), near(3), near(15)); break;
                case "shelf": call(name, near(2), near(3)); break;
                case "day": call(name, pick(-1, 0, 9999, 10000, roll(10000)), near(20), near(1)); break;
                default: call("count", near(9)); break;
            }
        }

        int survey() {
            return oneIn(30) ? pick(-1, 2, Integer.MAX_VALUE, Integer.MIN_VALUE) : roll(2);
        }

        int thing() {
            return oneIn(30) ? pick(-1, 8, 9, Integer.MAX_VALUE, Integer.MIN_VALUE) : roll(8);
        }

        int near(int most) {
            return oneIn(20) ? pick(-1, most + 1, Integer.MAX_VALUE, Integer.MIN_VALUE) : roll(most + 1);
        }

        int place() {
            return oneIn(30) ? pick(-1, 61, 60, Integer.MIN_VALUE) : roll(box + 1);
        }

        void call(String name, int... a) {
            String call = name + Arrays.toString(a).replace('[', '(').replace(']', ')');
            if (calls.size() >= CALLS) {
                return;
            }
            calls.add(call);
            int got = onReal(name, a);
            int want = onModel(name, a);
            note(name, a, want);
            if (got != want) {
                wrong++;
                System.out.println("run " + number + ", call " + calls.size() + ": " + call + " answered " + got
                        + ", due is " + want);
                if (wrong == 1) {
                    System.out.println(calls);
                }
            }
        }

        void note(String name, int[] a, int answer) {
            String[] codes = {"", " BAD", " NO", " FULL", " NONE"};
            boolean isCode = answer < 0 && answer >= -4;
            saw(isCode ? name + codes[-answer] : name + " done");
            if (name.equals("fault") && answer >= 0) {
                saw("fault found");
            } else if (name.equals("told") && a[1] == -1 && answer > 0) {
                saw("told " + answer + " streets");
            } else if (name.equals("named") && answer == 0) {
                saw("named 0");
            } else if (name.equals("comes") && (a[1] == 1 || a[1] == 3) && answer > 1) {
                saw("comes by a triangle");
            } else if (name.equals("comes") && (a[1] == 0 || a[1] == 2) && answer > 0 && answer < EVEN) {
                saw("comes below 0");
            } else if (name.equals("whole") && a[0] == 1 && answer > 0) {
                saw("whole turned");
            } else if (name.equals("whole") && a[0] == 2 && answer == 0) {
                saw("whole(2) is 0");
            } else if (name.equals("day") && a[2] == 1 && answer > 0) {
                saw("day turned");
            }
        }

        void saw(String what) {
            seen.merge(what, 1, Integer::sum);
        }

        int onReal(String name, int[] a) {
            switch (name) {
                case "write": return real.write(a[0]);
                case "wipe": return real.wipe();
                case "fault": return real.fault();
                case "lay": return real.lay();
                case "meeting": return real.meeting(a[0], a[1], a[2]);
                case "street": return real.street(a[0], a[1], a[2]);
                case "move": return real.move(a[0], a[1], a[2], a[3]);
                case "rename": return real.rename(a[0], a[1], a[2]);
                case "name": return real.name(a[0], a[1], a[2]);
                case "join": return real.join(a[0], a[1], a[2], a[3]);
                case "cut": return real.cut(a[0], a[1]);
                case "tune": return real.tune(a[0], a[1]);
                case "undo": return real.undo();
                case "belief": return real.belief(a[0], a[1]);
                case "match": return real.match(a[0], a[1]);
                case "told": return real.told(a[0], a[1]);
                case "named": return real.named(a[0]);
                case "comes": return real.comes(a[0], a[1]);
                case "whole": return real.whole(a[0]);
                case "shelve": return real.shelve(a[0], a[1], a[2]);
                case "shelf": return real.shelf(a[0], a[1]);
                case "day": return real.day(a[0], a[1], a[2]);
                case "keep": return real.keep();
                case "back": return real.back();
                default: return real.count(a[0]);
            }
        }

        int onModel(String name, int[] a) {
            switch (name) {
                case "write": return model.write(a[0]);
                case "wipe": return model.wipe();
                case "fault": return model.fault();
                case "lay": return model.lay();
                case "meeting": return model.meeting(a[0], a[1], a[2]);
                case "street": return model.street(a[0], a[1], a[2]);
                case "move": return model.move(a[0], a[1], a[2], a[3]);
                case "rename": return model.rename(a[0], a[1], a[2]);
                case "name": return model.name(a[0], a[1], a[2]);
                case "join": return model.join(a[0], a[1], a[2], a[3]);
                case "cut": return model.cut(a[0], a[1]);
                case "tune": return model.tune(a[0], a[1]);
                case "undo": return model.undo();
                case "belief": return model.belief(a[0], a[1]);
                case "match": return model.match(a[0], a[1]);
                case "told": return model.told(a[0], a[1]);
                case "named": return model.named(a[0]);
                case "comes": return model.comes(a[0], a[1]);
                case "whole": return model.whole(model.now, a[0]);
                case "shelve": return model.shelve(a[0], a[1], a[2]);
                case "shelf": return model.shelf(a[0], a[1]);
                case "day": return model.day(a[0], a[1], a[2]);
                case "keep": return model.keep();
                case "back": return model.back();
                default: return model.count(a[0]);
            }
        }
    }

    private record Meeting(int kind, int x, int y) {
    }

    private record Street(int u, int v, int name) {
        boolean joins(int a, int b) {
            return u == a && v == b || u == b && v == a;
        }
    }

    private record Pair(int i, int j) {
    }

    private record Point(BigInteger topX, BigInteger topY, BigInteger bottom) {
    }

    private static final class State {
        int radius = 10;
        int rounds = 2;
        List<List<Meeting>> meetings = List.of(new ArrayList<>(), new ArrayList<>());
        List<List<Street>> streets = List.of(new ArrayList<>(), new ArrayList<>());

        State copy() {
            State copy = new State();
            copy.radius = radius;
            copy.rounds = rounds;
            for (int survey = 0; survey < 2; survey++) {
                copy.meetings.get(survey).addAll(meetings.get(survey));
                copy.streets.get(survey).addAll(streets.get(survey));
            }
            return copy;
        }

        boolean hasMeeting(int survey, int i) {
            return survey >= 0 && survey <= 1 && i >= 0 && i < meetings.get(survey).size();
        }

        boolean hasStreet(int survey, int s) {
            return survey >= 0 && survey <= 1 && s >= 0 && s < streets.get(survey).size();
        }

        boolean joined(int survey, int u, int v) {
            return streets.get(survey).stream().anyMatch(street -> street.joins(u, v));
        }

        List<Integer> neighbours(int survey, int i) {
            List<Integer> found = new ArrayList<>();
            for (int k = 0; k < 8; k++) {
                if (k != i && joined(survey, i, k)) {
                    found.add(k);
                }
            }
            return found;
        }

        int reach(int survey, int i) {
            int[] reaches = {radius, radius / 2, Math.min(20, radius + 5), radius / 2 + 1};
            return reaches[meetings.get(survey).get(i).kind];
        }

        Map<Pair, BigDecimal> beliefs() {
            Map<Pair, BigDecimal> beliefs = new HashMap<>();
            for (int i = 0; i < meetings.get(0).size(); i++) {
                for (int j = 0; j < meetings.get(1).size(); j++) {
                    Meeting a = meetings.get(0).get(i);
                    Meeting b = meetings.get(1).get(j);
                    int distance = (a.x - b.x) * (a.x - b.x) + (a.y - b.y) * (a.y - b.y);
                    int reach = Math.min(reach(0, i), reach(1, j));
                    if (distance <= reach * reach) {
                        int belief = Math.max(1, radius * radius + 1 - distance);
                        beliefs.put(new Pair(i, j), BigDecimal.valueOf(belief));
                    }
                }
            }
            for (int round = 0; round < rounds; round++) {
                beliefs = improved(beliefs);
            }
            return beliefs;
        }

        Map<Pair, BigDecimal> improved(Map<Pair, BigDecimal> old) {
            Map<Pair, BigDecimal> improved = new HashMap<>();
            for (Pair pair : old.keySet()) {
                BigDecimal support = BigDecimal.ZERO;
                for (int k : neighbours(0, pair.i)) {
                    support = support.add(neighbours(1, pair.j).stream()
                            .map(l -> old.getOrDefault(new Pair(k, l), BigDecimal.ZERO))
                            .max(Comparator.naturalOrder()).orElse(BigDecimal.ZERO));
                }
                for (int l : neighbours(1, pair.j)) {
                    support = support.add(neighbours(0, pair.i).stream()
                            .map(k -> old.getOrDefault(new Pair(k, l), BigDecimal.ZERO))
                            .max(Comparator.naturalOrder()).orElse(BigDecimal.ZERO));
                }
                BigDecimal half = old.get(pair).multiply(new BigDecimal("0.5"));
                improved.put(pair, half.add(support.multiply(new BigDecimal("0.125"))));
            }
            return improved;
        }

        /** The matches by meeting of survey 0. */
        TreeMap<Integer, Integer> matches(boolean exchanged) {
            Map<Pair, BigDecimal> beliefs = beliefs();
            Comparator<Pair> order = Comparator.comparing((Pair pair) -> beliefs.get(pair)).reversed();
            order = exchanged ? order.thenComparing(Pair::j).thenComparing(Pair::i)
                    : order.thenComparing(Pair::i).thenComparing(Pair::j);
            List<Pair> pairs = new ArrayList<>(beliefs.keySet());
            pairs.sort(order);
            TreeMap<Integer, Integer> matches = new TreeMap<>();
            for (Pair pair : pairs) {
                if (!matches.containsKey(pair.i) && !matches.containsValue(pair.j)) {
                    matches.put(pair.i, pair.j);
                }
            }
            return matches;
        }

        /** The meetings of survey 1 by which a street of survey 0 is expressed, or null. */
        List<Integer> way(int s) {
            TreeMap<Integer, Integer> matches = matches(false);
            Street street = streets.get(0).get(s);
            Integer from = matches.get(street.u);
            Integer to = matches.get(street.v);
            if (from == null || to == null) {
                return null;
            }
            List<List<Integer>> ways = List.of(List.of(from));
            for (int length = 1; length <= 3; length++) {
                List<List<Integer>> longer = new ArrayList<>();
                for (List<Integer> way : ways) {
                    for (int next : neighbours(1, way.get(way.size() - 1))) {
                        List<Integer> more = new ArrayList<>(way);
                        more.add(next);
                        longer.add(more);
                    }
                }
                List<Integer> first = longer.stream().filter(way -> way.get(way.size() - 1).equals(to))
                        .min(Comparator.comparing(Object::toString)).orElse(null);
                if (first != null) {
                    return first;
                }
                ways = longer;
            }
            return null;
        }

        int name(int s) {
            int own = streets.get(0).get(s).name;
            List<Integer> way = way(s);
            if (own != 0 || way == null) {
                return own;
            }
            Set<Integer> names = new HashSet<>();
            for (int n = 1; n < way.size(); n++) {
                for (Street street : streets.get(1)) {
                    if (street.joins(way.get(n - 1), way.get(n))) {
                        names.add(street.name);
                    }
                }
            }
            return names.size() == 1 ? names.iterator().next() : 0;
        }

        int cross(int survey, int a, int b, int c) {
            List<Meeting> of = meetings.get(survey);
            return of.get(a).x * (of.get(b).y - of.get(c).y) + of.get(b).x * (of.get(c).y - of.get(a).y)
                    + of.get(c).x * (of.get(a).y - of.get(b).y);
        }

        int turned() {
            TreeMap<Integer, Integer> of = matches(false);
            int turned = 0;
            for (int a : of.keySet()) {
                for (int b : of.tailMap(a, false).keySet()) {
                    for (int c : of.tailMap(b, false).keySet()) {
                        if (cross(0, a, b, c) * cross(1, of.get(a), of.get(b), of.get(c)) < 0) {
                            turned++;
                        }
                    }
                }
            }
            return turned;
        }

        Point transferred(int p) {
            TreeMap<Integer, Integer> of = matches(false);
            if (of.containsKey(p)) {
                Meeting mate = meetings.get(1).get(of.get(p));
                return point(mate.x, mate.y, 1);
            }
            int[] corners = smallestTriangle(p, of);
            if (corners != null) {
                int area = cross(0, corners[0], corners[1], corners[2]);
                int x = 0;
                int y = 0;
                for (int n = 0; n < 3; n++) {
                    int weight = cross(0, p, corners[(n + 1) % 3], corners[(n + 2) % 3]);
                    Meeting mate = meetings.get(1).get(of.get(corners[n]));
                    x += weight * mate.x;
                    y += weight * mate.y;
                }
                return point(x * Integer.signum(area), y * Integer.signum(area), Math.abs(area));
            }
            Meeting here = meetings.get(0).get(p);
            Comparator<Integer> nearer = Comparator.comparing(i -> square(here, meetings.get(0).get(i)));
            Integer leader = of.keySet().stream().min(nearer.thenComparing(i -> i)).orElse(null);
            if (leader == null) {
                return point(here.x, here.y, 1);
            }
            Meeting from = meetings.get(0).get(leader);
            Meeting to = meetings.get(1).get(of.get(leader));
            return point(here.x + to.x - from.x, here.y + to.y - from.y, 1);
        }

        static int square(Meeting a, Meeting b) {
            return (a.x - b.x) * (a.x - b.x) + (a.y - b.y) * (a.y - b.y);
        }

        static Point point(int topX, int topY, int bottom) {
            return new Point(BigInteger.valueOf(topX), BigInteger.valueOf(topY), BigInteger.valueOf(bottom));
        }

        int[] smallestTriangle(int p, TreeMap<Integer, Integer> of) {
            List<int[]> triangles = new ArrayList<>();
            for (int a : of.keySet()) {
                for (int b : of.tailMap(a, false).keySet()) {
                    for (int c : of.tailMap(b, false).keySet()) {
                        int sign = Integer.signum(cross(0, a, b, c));
                        boolean inside = sign * cross(0, p, b, c) >= 0 && sign * cross(0, a, p, c) >= 0
                                && sign * cross(0, a, b, p) >= 0;
                        if (sign != 0 && inside) {
                            triangles.add(new int[] {a, b, c});
                        }
                    }
                }
            }
            Comparator<int[]> order = Comparator.comparing(t -> Math.abs(cross(0, t[0], t[1], t[2])));
            return triangles.stream().min(order.thenComparing(t -> Arrays.toString(t))).orElse(null);
        }
    }

    private static final class Model {
        static final Pattern ITEM = Pattern.compile("([rn])(\\d{1,2});|([abst])(\\d{1,2}),(\\d{1,2}),(\\d{1,2});");
        static final String START = "r12;n2;a0,5,5;a0,20,6;a0,34,8;a1,6,24;a0,21,25;a2,40,26;b0,8,7;b0,22,5;b0,33,11;"
                + "b0,9,28;b0,24,27;b0,30,18;s0,1,3;s1,2,0;s0,3,4;s1,4,0;s3,4,5;s4,5,0;t0,1,3;t1,2,6;t0,3,4;"
                + "t1,5,7;t5,4,7;t3,4,5;";

        String text = "";
        State now = new State();
        final Deque<State> acts = new ArrayDeque<>();
        final Deque<State> kept = new ArrayDeque<>();
        Integer[][] shelves = new Integer[3][4];

        Model() {
            if (read(START, now) != NONE) {
                throw new IllegalStateException("the initial text has a fault");
            }
        }

        static boolean in(int value, int least, int most) {
            return value >= least && value <= most;
        }

        static int read(String text, State state) {
            Matcher item = ITEM.matcher(text);
            int at = 0;
            while (at < text.length()) {
                item.region(at, text.length());
                if (!item.lookingAt() || !take(item, state)) {
                    return at;
                }
                at = item.end();
            }
            return NONE;
        }

        static boolean take(Matcher item, State state) {
            if (item.group(1) != null) {
                int value = Integer.parseInt(item.group(2));
                boolean isRadius = item.group(1).equals("r");
                if (!in(value, isRadius ? 1 : 0, isRadius ? 20 : 3)) {
                    return false;
                }
                state.radius = isRadius ? value : state.radius;
                state.rounds = isRadius ? state.rounds : value;
                return true;
            }
            int survey = "as".contains(item.group(3)) ? 0 : 1;
            int a = Integer.parseInt(item.group(4));
            int b = Integer.parseInt(item.group(5));
            int c = Integer.parseInt(item.group(6));
            if ("ab".contains(item.group(3))) {
                state.meetings.get(survey).add(new Meeting(a, b, c));
                return state.meetings.get(survey).size() <= 8 && a <= 3 && b <= 60 && c <= 60;
            }
            boolean free = a != b && !state.joined(survey, a, b);
            state.streets.get(survey).add(new Street(a, b, c));
            return free && state.hasMeeting(survey, a) && state.hasMeeting(survey, b) && c <= 9
                    && state.streets.get(survey).size() <= 8;
        }

        int write(int letter) {
            if (!in(letter, 32, 126)) {
                return BAD;
            }
            if (text.length() == 200) {
                return FULL;
            }
            text += (char) letter;
            return text.length();
        }

        int wipe() {
            int had = text.length();
            text = "";
            return had;
        }

        int fault() {
            return read(text, new State());
        }

        int lay() {
            State laid = new State();
            if (read(text, laid) != NONE || laid.meetings.get(0).isEmpty() || laid.meetings.get(1).isEmpty()) {
                return NO;
            }
            now = laid;
            acts.clear();
            kept.clear();
            shelves = new Integer[3][4];
            return now.meetings.get(0).size() + now.meetings.get(1).size();
        }

        int meeting(int survey, int i, int what) {
            if (!now.hasMeeting(survey, i) || !in(what, 0, 4)) {
                return BAD;
            }
            Meeting meeting = now.meetings.get(survey).get(i);
            return new int[] {meeting.kind, meeting.x, meeting.y, now.reach(survey, i),
                now.neighbours(survey, i).size()}[what];
        }

        int street(int survey, int s, int what) {
            if (!now.hasStreet(survey, s) || !in(what, 0, 2)) {
                return BAD;
            }
            Street street = now.streets.get(survey).get(s);
            return new int[] {street.u, street.v, street.name}[what];
        }

        void act() {
            acts.push(now.copy());
            if (acts.size() > 8) {
                acts.removeLast();
            }
        }

        int move(int survey, int i, int x, int y) {
            if (!now.hasMeeting(survey, i) || !in(x, 0, 60) || !in(y, 0, 60)) {
                return BAD;
            }
            Meeting old = now.meetings.get(survey).get(i);
            Meeting changed = new Meeting(old.kind, x, y);
            if (old.equals(changed)) {
                return NO;
            }
            act();
            now.meetings.get(survey).set(i, changed);
            return 1;
        }

        int rename(int survey, int i, int k) {
            if (!now.hasMeeting(survey, i) || !in(k, 0, 3)) {
                return BAD;
            }
            Meeting old = now.meetings.get(survey).get(i);
            if (old.kind == k) {
                return NO;
            }
            act();
            now.meetings.get(survey).set(i, new Meeting(k, old.x, old.y));
            return old.kind;
        }

        int name(int survey, int s, int n) {
            if (!now.hasStreet(survey, s) || !in(n, 0, 9)) {
                return BAD;
            }
            Street old = now.streets.get(survey).get(s);
            if (old.name == n) {
                return NO;
            }
            act();
            now.streets.get(survey).set(s, new Street(old.u, old.v, n));
            return old.name;
        }

        int join(int survey, int u, int v, int n) {
            if (!now.hasMeeting(survey, u) || !now.hasMeeting(survey, v) || u == v || !in(n, 0, 9)) {
                return BAD;
            }
            if (now.joined(survey, u, v)) {
                return NO;
            }
            if (now.streets.get(survey).size() == 8) {
                return FULL;
            }
            act();
            now.streets.get(survey).add(new Street(u, v, n));
            return now.streets.get(survey).size();
        }

        int cut(int survey, int s) {
            if (!now.hasStreet(survey, s)) {
                return BAD;
            }
            act();
            now.streets.get(survey).remove(s);
            return now.streets.get(survey).size();
        }

        int tune(int what, int v) {
            if (!in(what, 0, 1) || !in(v, 1 - what, what == 0 ? 20 : 3)) {
                return BAD;
            }
            int old = what == 0 ? now.radius : now.rounds;
            if (old == v) {
                return NO;
            }
            act();
            now.radius = what == 0 ? v : now.radius;
            now.rounds = what == 0 ? now.rounds : v;
            return old;
        }

        int undo() {
            if (acts.isEmpty()) {
                return NO;
            }
            now = acts.pop();
            return acts.size();
        }

        int belief(int i, int j) {
            if (!now.hasMeeting(0, i) || !now.hasMeeting(1, j)) {
                return BAD;
            }
            BigDecimal belief = now.beliefs().get(new Pair(i, j));
            return belief == null ? NONE : belief.multiply(BigDecimal.valueOf(512)).intValueExact();
        }

        int match(int survey, int i) {
            if (!now.hasMeeting(survey, i)) {
                return BAD;
            }
            for (Map.Entry<Integer, Integer> match : now.matches(false).entrySet()) {
                if ((survey == 0 ? match.getKey() : match.getValue()) == i) {
                    return survey == 0 ? match.getValue() : match.getKey();
                }
            }
            return NONE;
        }

        int told(int s, int k) {
            if (!now.hasStreet(0, s) || k < -1) {
                return BAD;
            }
            List<Integer> way = now.way(s);
            if (way == null || k >= way.size()) {
                return NONE;
            }
            return k == -1 ? way.size() - 1 : way.get(k);
        }

        int named(int s) {
            return now.hasStreet(0, s) ? now.name(s) : BAD;
        }

        int comes(int i, int what) {
            if (!now.hasMeeting(0, i) || !in(what, 0, 3)) {
                return BAD;
            }
            Point point = now.transferred(i);
            BigInteger top = what < 2 ? point.topX : point.topY;
            BigInteger divisor = top.gcd(point.bottom);
            return what % 2 == 0 ? EVEN + top.divide(divisor).intValueExact()
                    : point.bottom.divide(divisor).intValueExact();
        }

        int whole(State state, int what) {
            TreeMap<Integer, Integer> matches = state.matches(false);
            int set = 0;
            switch (what) {
                case 0: return matches.size();
                case 1: return state.turned();
                case 2: return matches.equals(state.matches(true)) ? 1 : 0;
                case 3:
                    for (int i = 0; i < state.meetings.get(0).size(); i++) {
                        set += matches.containsKey(i) ? 0 : 1 << i;
                    }
                    return set;
                case 4:
                    for (int j = 0; j < state.meetings.get(1).size(); j++) {
                        set += matches.containsValue(j) ? 0 : 1 << j;
                    }
                    return set;
                case 5:
                    int expressed = 0;
                    for (int s = 0; s < state.streets.get(0).size(); s++) {
                        expressed += state.way(s) == null ? 0 : 1;
                    }
                    return expressed;
                default: return BAD;
            }
        }

        int shelve(int shelf, int place, int thing) {
            boolean isMeeting = in(thing, 0, 7) && now.hasMeeting(0, thing);
            boolean isStreet = in(thing, 8, 15) && now.hasStreet(0, thing - 8);
            if (!in(shelf, 0, 2) || !in(place, 0, 3) || !isMeeting && !isStreet) {
                return BAD;
            }
            if (shelf == 0 && isStreet || shelf == 1 && isMeeting) {
                return NO;
            }
            shelves[shelf][place] = thing;
            return 1;
        }

        int shelf(int shelf, int place) {
            if (!in(shelf, 0, 2) || !in(place, 0, 3)) {
                return BAD;
            }
            return shelves[shelf][place] == null ? NONE : shelves[shelf][place];
        }

        int day(int z, int n, int what) {
            if (!in(z, 0, 9999) || !in(n, 1, 20) || !in(what, 0, 1)) {
                return BAD;
            }
            State copy = now.copy();
            for (int k = 0; k < n; k++) {
                BigInteger x = BigInteger.valueOf(7919L * z + 6151L * k + 1);
                int d = x.modPow(BigInteger.TWO, BigInteger.valueOf(65521)).intValueExact();
                List<Meeting> meetings = copy.meetings.get(d % 2);
                int i = (d / 2) % meetings.size();
                meetings.set(i, new Meeting(meetings.get(i).kind, (d / 16) % 61, (d / 256) % 61));
            }
            return whole(copy, what);
        }

        int keep() {
            if (kept.size() == 2) {
                return FULL;
            }
            kept.push(now.copy());
            return kept.size();
        }

        int back() {
            if (kept.isEmpty()) {
                return NO;
            }
            now = kept.pop();
            acts.clear();
            return kept.size();
        }

        int count(int what) {
            if (!in(what, 0, 9)) {
                return BAD;
            }
            int things = (int) Arrays.stream(shelves).flatMap(Arrays::stream).filter(thing -> thing != null).count();
            return new int[] {now.meetings.get(0).size(), now.meetings.get(1).size(), now.streets.get(0).size(),
                now.streets.get(1).size(), now.radius, now.rounds, acts.size(), kept.size(), text.length(),
                things}[what];
        }
    }
}
