/**
 * Conflation of two road surveys of the same town, as ../shared/DOC.md promises it.
 *
 * <p>Everything that is asked about the matching is computed anew from the present surveys, in rows
 * that the constructor makes: so no answer can be stale, and no call makes an object.
 */
public final class TwoSurveys {
    public static final int BAD = -1, NO = -2, FULL = -3, NONE = -4, EVEN = 100000;

    private static final int MOST = 8;
    private static final int MOST_LETTERS = 200;
    private static final int MOST_ACTS = 8;
    private static final int MOST_KEPT = 2;
    private static final int NOBODY = -1;
    private static final int FIRST_LETTER = 32, LAST_LETTER = 126;
    private static final int LAST_KIND = 3, LAST_NAME = 9, FARTHEST = 60;
    private static final int LARGEST_RADIUS = 20, MOST_ROUNDS = 3;
    private static final int SHELVES = 3, PLACES = 4, FIRST_STREET = 8, LAST_THING = 15;
    private static final int LAST_DAY = 9999, LONGEST_DAY = 20;

    // One literal, because texts are not to be joined by +.
    private static final String START = "r12;n2;a0,5,5;a0,20,6;a0,34,8;a1,6,24;a0,21,25;a2,40,26;b0,8,7;b0,22,5;b0,33,11;b0,9,28;b0,24,27;b0,30,18;s0,1,3;s1,2,0;s0,3,4;s1,4,0;s3,4,5;s4,5,0;t0,1,3;t1,2,6;t0,3,4;t1,5,7;t5,4,7;t3,4,5;";

    private final Text text = new Text();
    private final Reader reader = new Reader();
    private final Towns now;
    private final Towns draft = new Towns();
    private final Pile acts = new Pile(MOST_ACTS);
    private final Pile kept = new Pile(MOST_KEPT);
    private final Shelves shelves = new Shelves();
    private final Matching matching = new Matching();
    private final Way way = new Way();
    private final Transfer transfer = new Transfer();

    public TwoSurveys() {
        now = startTowns();
    }

    public int write(int letter) {
        if (letter < FIRST_LETTER || letter > LAST_LETTER) {
            return BAD;
        }
        return text.add(letter) ? text.length() : FULL;
    }

    public int wipe() {
        int had = text.length();
        text.clear();
        return had;
    }

    public int fault() {
        return reader.read(text, draft);
    }

    public int lay() {
        if (reader.read(text, draft) != NONE) {
            return NO;
        }
        int meetings0 = draft.surveyOf(0).meetings();
        int meetings1 = draft.surveyOf(1).meetings();
        if (meetings0 == 0 || meetings1 == 0) {
            return NO;
        }
        now.copy(draft);
        shelves.clear();
        acts.clear();
        kept.clear();
        return meetings0 + meetings1;
    }

    public int meeting(int survey, int i, int what) {
        if (!hasMeeting(survey, i)) {
            return BAD;
        }
        Survey asked = now.surveyOf(survey);
        switch (what) {
            case 0: return asked.kindOf(i);
            case 1: return asked.xOf(i);
            case 2: return asked.yOf(i);
            case 3: return now.reachOf(survey, i);
            case 4: return asked.streetsAt(i);
            default: return BAD;
        }
    }

    public int street(int survey, int s, int what) {
        if (!hasStreet(survey, s)) {
            return BAD;
        }
        Survey asked = now.surveyOf(survey);
        switch (what) {
            case 0: return asked.startOf(s);
            case 1: return asked.endOf(s);
            case 2: return asked.nameOf(s);
            default: return BAD;
        }
    }

    public int move(int survey, int i, int x, int y) {
        if (!hasMeeting(survey, i) || !isWithin(x, 0, FARTHEST) || !isWithin(y, 0, FARTHEST)) {
            return BAD;
        }
        Survey changed = now.surveyOf(survey);
        if (changed.xOf(i) == x && changed.yOf(i) == y) {
            return NO;
        }
        acts.push(now);
        changed.put(i, x, y);
        return 1;
    }

    public int rename(int survey, int i, int k) {
        if (!hasMeeting(survey, i) || !isWithin(k, 0, LAST_KIND)) {
            return BAD;
        }
        Survey changed = now.surveyOf(survey);
        int previous = changed.kindOf(i);
        if (previous == k) {
            return NO;
        }
        acts.push(now);
        changed.setKind(i, k);
        return previous;
    }

    public int name(int survey, int s, int n) {
        if (!hasStreet(survey, s) || !isWithin(n, 0, LAST_NAME)) {
            return BAD;
        }
        Survey changed = now.surveyOf(survey);
        int previous = changed.nameOf(s);
        if (previous == n) {
            return NO;
        }
        acts.push(now);
        changed.setName(s, n);
        return previous;
    }

    public int join(int survey, int u, int v, int n) {
        if (!hasMeeting(survey, u) || !hasMeeting(survey, v) || u == v || !isWithin(n, 0, LAST_NAME)) {
            return BAD;
        }
        Survey changed = now.surveyOf(survey);
        if (changed.streetBetween(u, v) != NOBODY) {
            return NO;
        }
        if (changed.streets() >= MOST) {
            return FULL;
        }
        acts.push(now);
        changed.addStreet(u, v, n);
        return changed.streets();
    }

    public int cut(int survey, int s) {
        if (!hasStreet(survey, s)) {
            return BAD;
        }
        acts.push(now);
        Survey changed = now.surveyOf(survey);
        changed.dropStreet(s);
        return changed.streets();
    }

    public int tune(int what, int v) {
        boolean isOfRadius = what == 0;
        if (!isWithin(what, 0, 1) || !(isOfRadius ? isRadius(v) : isRounds(v))) {
            return BAD;
        }
        int previous = isOfRadius ? now.radius() : now.rounds();
        if (previous == v) {
            return NO;
        }
        acts.push(now);
        if (isOfRadius) {
            now.setRadius(v);
        } else {
            now.setRounds(v);
        }
        return previous;
    }

    public int undo() {
        return acts.pop(now) ? acts.height() : NO;
    }

    public int belief(int i, int j) {
        if (!hasMeeting(0, i) || !hasMeeting(1, j)) {
            return BAD;
        }
        matching.make(now);
        return matching.isPair(i, j) ? matching.beliefIn(i, j) : NONE;
    }

    public int match(int survey, int i) {
        if (!hasMeeting(survey, i)) {
            return BAD;
        }
        matching.make(now);
        int mate = matching.mateOf(survey, i);
        return mate == NOBODY ? NONE : mate;
    }

    public int told(int s, int k) {
        if (!hasStreet(0, s) || k < -1) {
            return BAD;
        }
        matching.make(now);
        express(now, s);
        if (!way.isFound()) {
            return NONE;
        }
        return k == -1 ? way.streets() : way.stopAt(k);
    }

    public int named(int s) {
        if (!hasStreet(0, s)) {
            return BAD;
        }
        int own = now.surveyOf(0).nameOf(s);
        if (own != 0) {
            return own;
        }
        matching.make(now);
        express(now, s);
        return way.commonName(now.surveyOf(1));
    }

    public int comes(int i, int what) {
        if (!hasMeeting(0, i)) {
            return BAD;
        }
        matching.make(now);
        transfer.find(now, matching, i);
        switch (what) {
            case 0: return EVEN + transfer.topOfX();
            case 1: return transfer.bottomOfX();
            case 2: return EVEN + transfer.topOfY();
            case 3: return transfer.bottomOfY();
            default: return BAD;
        }
    }

    public int whole(int what) {
        return numberOfWhole(now, what);
    }

    public int shelve(int shelf, int place, int thing) {
        if (!shelves.hasPlace(shelf, place) || !hasThing(thing)) {
            return BAD;
        }
        if (!Shelves.takes(shelf, thing)) {
            return NO;
        }
        shelves.put(shelf, place, thing);
        return 1;
    }

    public int shelf(int shelf, int place) {
        return shelves.hasPlace(shelf, place) ? shelves.thingAt(shelf, place) : BAD;
    }

    public int day(int z, int n, int what) {
        if (!isWithin(z, 0, LAST_DAY) || !isWithin(n, 1, LONGEST_DAY) || !isWithin(what, 0, 1)) {
            return BAD;
        }
        draft.copy(now);
        for (int k = 0; k < n; k++) {
            moveAtRandom(draft, z, k);
        }
        return numberOfWhole(draft, what);
    }

    public int keep() {
        if (kept.height() >= MOST_KEPT) {
            return FULL;
        }
        kept.push(now);
        return kept.height();
    }

    public int back() {
        if (!kept.pop(now)) {
            return NO;
        }
        acts.clear();
        return kept.height();
    }

    public int count(int what) {
        switch (what) {
            case 0: return now.surveyOf(0).meetings();
            case 1: return now.surveyOf(1).meetings();
            case 2: return now.surveyOf(0).streets();
            case 3: return now.surveyOf(1).streets();
            case 4: return now.radius();
            case 5: return now.rounds();
            case 6: return acts.height();
            case 7: return kept.height();
            case 8: return text.length();
            case 9: return shelves.things();
            default: return BAD;
        }
    }

    private static Towns startTowns() {
        Text start = new Text();
        for (int i = 0; i < START.length(); i++) {
            start.add(START.charAt(i));
        }
        Towns towns = new Towns();
        new Reader().read(start, towns);
        return towns;
    }

    private static boolean isWithin(int value, int least, int greatest) {
        return value >= least && value <= greatest;
    }

    private static boolean isRadius(int value) {
        return value >= 1 && value <= LARGEST_RADIUS;
    }

    private static boolean isRounds(int value) {
        return value >= 0 && value <= MOST_ROUNDS;
    }

    private boolean hasMeeting(int survey, int i) {
        return isWithin(survey, 0, 1) && now.surveyOf(survey).hasMeeting(i);
    }

    private boolean hasStreet(int survey, int s) {
        return isWithin(survey, 0, 1) && now.surveyOf(survey).hasStreet(s);
    }

    private boolean hasThing(int thing) {
        if (!isWithin(thing, 0, LAST_THING)) {
            return false;
        }
        return thing < FIRST_STREET ? hasMeeting(0, thing) : hasStreet(0, thing - FIRST_STREET);
    }

    /** Finds the way for a street of survey 0; the matching of these towns must be made before. */
    private void express(Towns towns, int s) {
        Survey survey = towns.surveyOf(0);
        int from = matching.mateOf(0, survey.startOf(s));
        int to = matching.mateOf(0, survey.endOf(s));
        way.find(towns.surveyOf(1), from, to);
    }

    private int numberOfWhole(Towns towns, int what) {
        if (!isWithin(what, 0, 5)) {
            return BAD;
        }
        matching.make(towns);
        switch (what) {
            case 0: return matching.pairs();
            case 1: return matching.turnedTriples(towns);
            case 2: return matching.isSameExchanged() ? 1 : 0;
            case 3: return matching.unmatched(towns, 0);
            case 4: return matching.unmatched(towns, 1);
            default: return expressedStreets(towns);
        }
    }

    private int expressedStreets(Towns towns) {
        int expressed = 0;
        for (int s = 0; s < towns.surveyOf(0).streets(); s++) {
            express(towns, s);
            if (way.isFound()) {
                expressed++;
            }
        }
        return expressed;
    }

    private static void moveAtRandom(Towns towns, int z, int k) {
        // The square of x does not fit into an int.
        long x = 7919L * z + 6151L * k + 1;
        int d = (int) (x * x % 65521);
        Survey survey = towns.surveyOf(d % 2);
        int meetings = survey.meetings();
        if (meetings > 0) {
            survey.put(d / 2 % meetings, d / 16 % 61, d / 256 % 61);
        }
    }

    /** The text buffer. */
    private static final class Text {
        private final char[] letters = new char[MOST_LETTERS];
        private int length;

        int length() {
            return length;
        }

        /** Answers false, and adds nothing, if there is no room. */
        boolean add(int letter) {
            if (length >= letters.length) {
                return false;
            }
            letters[length] = (char) letter;
            length++;
            return true;
        }

        void clear() {
            length = 0;
        }

        /** Beyond the end stands a 0, which is part of no item. */
        int letterAt(int i) {
            return i >= 0 && i < length ? letters[i] : 0;
        }
    }

    /** Reads a text, item by item, into towns. */
    private static final class Reader {
        private final int[] numbers = new int[3];
        private int next;

        /** Answers the fault, or NONE. With a fault the towns hold only what stands before it. */
        int read(Text text, Towns towns) {
            towns.clear();
            next = 0;
            for (int item = 0; item < MOST_LETTERS && next < text.length(); item++) {
                int first = next;
                if (!readItem(text, towns)) {
                    return first;
                }
            }
            return NONE;
        }

        private boolean readItem(Text text, Towns towns) {
            int letter = text.letterAt(next);
            int wanted = numbersOf(letter);
            next++;
            for (int n = 0; n < wanted; n++) {
                int number = readNumber(text);
                int mark = n == wanted - 1 ? ';' : ',';
                if (number < 0 || text.letterAt(next) != mark) {
                    return false;
                }
                numbers[n] = number;
                next++;
            }
            return take(letter, towns);
        }

        /** How many numbers follow a letter; 0 if no item begins with it. */
        private static int numbersOf(int letter) {
            switch (letter) {
                case 'r':
                case 'n': return 1;
                case 'a':
                case 'b':
                case 's':
                case 't': return 3;
                default: return 0;
            }
        }

        /** Reads one or two digits; answers -1 if there is none. */
        private int readNumber(Text text) {
            int number = -1;
            for (int digits = 0; digits < 2; digits++) {
                int letter = text.letterAt(next);
                if (!isWithin(letter, '0', '9')) {
                    return number;
                }
                number = Math.max(number, 0) * 10 + letter - '0';
                next++;
            }
            return number;
        }

        /** Puts the item that was read into the towns; answers false if it may not stand there. */
        private boolean take(int letter, Towns towns) {
            switch (letter) {
                case 'r': return towns.setRadius(numbers[0]);
                case 'n': return towns.setRounds(numbers[0]);
                case 'a': return towns.surveyOf(0).addMeeting(numbers[0], numbers[1], numbers[2]);
                case 'b': return towns.surveyOf(1).addMeeting(numbers[0], numbers[1], numbers[2]);
                case 's': return towns.surveyOf(0).addStreet(numbers[0], numbers[1], numbers[2]);
                case 't': return towns.surveyOf(1).addStreet(numbers[0], numbers[1], numbers[2]);
                default: return false;
            }
        }
    }

    /** One survey. What it is asked about a meeting or a street that it has not is 0. */
    private static final class Survey {
        private final int[] kinds = new int[MOST];
        private final int[] xs = new int[MOST];
        private final int[] ys = new int[MOST];
        private final int[] starts = new int[MOST];
        private final int[] ends = new int[MOST];
        private final int[] names = new int[MOST];
        private int meetings;
        private int streets;

        void clear() {
            meetings = 0;
            streets = 0;
        }

        void copy(Survey other) {
            System.arraycopy(other.kinds, 0, kinds, 0, MOST);
            System.arraycopy(other.xs, 0, xs, 0, MOST);
            System.arraycopy(other.ys, 0, ys, 0, MOST);
            System.arraycopy(other.starts, 0, starts, 0, MOST);
            System.arraycopy(other.ends, 0, ends, 0, MOST);
            System.arraycopy(other.names, 0, names, 0, MOST);
            meetings = other.meetings;
            streets = other.streets;
        }

        int meetings() {
            return meetings;
        }

        int streets() {
            return streets;
        }

        boolean hasMeeting(int i) {
            return i >= 0 && i < meetings;
        }

        boolean hasStreet(int s) {
            return s >= 0 && s < streets;
        }

        int kindOf(int i) {
            return hasMeeting(i) ? kinds[i] : 0;
        }

        int xOf(int i) {
            return hasMeeting(i) ? xs[i] : 0;
        }

        int yOf(int i) {
            return hasMeeting(i) ? ys[i] : 0;
        }

        int startOf(int s) {
            return hasStreet(s) ? starts[s] : 0;
        }

        int endOf(int s) {
            return hasStreet(s) ? ends[s] : 0;
        }

        int nameOf(int s) {
            return hasStreet(s) ? names[s] : 0;
        }

        /** The other end of a street at this meeting; NOBODY if the street is not at it. */
        int otherEnd(int s, int i) {
            if (!hasStreet(s)) {
                return NOBODY;
            }
            if (starts[s] == i) {
                return ends[s];
            }
            return ends[s] == i ? starts[s] : NOBODY;
        }

        int streetsAt(int i) {
            int found = 0;
            for (int s = 0; s < streets; s++) {
                if (otherEnd(s, i) != NOBODY) {
                    found++;
                }
            }
            return found;
        }

        /** The street between two meetings, or NOBODY. */
        int streetBetween(int u, int v) {
            for (int s = 0; s < streets; s++) {
                boolean leads = starts[s] == u && ends[s] == v;
                boolean leadsBack = starts[s] == v && ends[s] == u;
                if (leads || leadsBack) {
                    return s;
                }
            }
            return NOBODY;
        }

        /** Twice the area of a triangle of meetings: its sign is the orientation, 0 is a line. */
        int twiceArea(int a, int b, int c) {
            int acrossB = xOf(b) - xOf(a);
            int upB = yOf(b) - yOf(a);
            int acrossC = xOf(c) - xOf(a);
            int upC = yOf(c) - yOf(a);
            return acrossB * upC - upB * acrossC;
        }

        /** Answers false, and adds nothing, if a survey can't have this meeting too. */
        boolean addMeeting(int kind, int x, int y) {
            if (meetings >= MOST || !isWithin(kind, 0, LAST_KIND)) {
                return false;
            }
            if (!isWithin(x, 0, FARTHEST) || !isWithin(y, 0, FARTHEST)) {
                return false;
            }
            kinds[meetings] = kind;
            xs[meetings] = x;
            ys[meetings] = y;
            meetings++;
            return true;
        }

        /** Answers false, and adds nothing, if a survey can't have this street too. */
        boolean addStreet(int u, int v, int n) {
            if (streets >= MOST || !hasMeeting(u) || !hasMeeting(v) || u == v) {
                return false;
            }
            if (streetBetween(u, v) != NOBODY || !isWithin(n, 0, LAST_NAME)) {
                return false;
            }
            starts[streets] = u;
            ends[streets] = v;
            names[streets] = n;
            streets++;
            return true;
        }

        void dropStreet(int s) {
            if (!hasStreet(s)) {
                return;
            }
            for (int t = s + 1; t < streets; t++) {
                starts[t - 1] = starts[t];
                ends[t - 1] = ends[t];
                names[t - 1] = names[t];
            }
            streets--;
        }

        void put(int i, int x, int y) {
            if (hasMeeting(i)) {
                xs[i] = x;
                ys[i] = y;
            }
        }

        void setKind(int i, int kind) {
            if (hasMeeting(i)) {
                kinds[i] = kind;
            }
        }

        void setName(int s, int n) {
            if (hasStreet(s)) {
                names[s] = n;
            }
        }
    }

    /** A state: both surveys, the radius and the number of rounds. */
    private static final class Towns {
        private final Survey survey0 = new Survey();
        private final Survey survey1 = new Survey();
        private int radius;
        private int rounds;

        /** Leaves what a text without any item tells. */
        void clear() {
            survey0.clear();
            survey1.clear();
            radius = 10;
            rounds = 2;
        }

        void copy(Towns other) {
            survey0.copy(other.survey0);
            survey1.copy(other.survey1);
            radius = other.radius;
            rounds = other.rounds;
        }

        Survey surveyOf(int survey) {
            return survey == 0 ? survey0 : survey1;
        }

        int radius() {
            return radius;
        }

        int rounds() {
            return rounds;
        }

        boolean setRadius(int value) {
            if (!isRadius(value)) {
                return false;
            }
            radius = value;
            return true;
        }

        boolean setRounds(int value) {
            if (!isRounds(value)) {
                return false;
            }
            rounds = value;
            return true;
        }

        int reachOf(int survey, int i) {
            switch (surveyOf(survey).kindOf(i)) {
                case 1: return radius / 2;
                case 2: return Math.min(LARGEST_RADIUS, radius + 5);
                case 3: return radius / 2 + 1;
                default: return radius;
            }
        }

        /** The squared distance of a meeting of survey 0 and one of survey 1. */
        int squaredDistance(int i, int j) {
            int across = survey0.xOf(i) - survey1.xOf(j);
            int up = survey0.yOf(i) - survey1.yOf(j);
            return across * across + up * up;
        }
    }

    /** Copies of earlier states, the latest on top. What is pushed on a full pile drops the oldest. */
    private static final class Pile {
        private final Towns[] copies;
        private int height;

        Pile(int room) {
            copies = new Towns[Math.max(room, 1)];
            for (int i = 0; i < copies.length; i++) {
                copies[i] = new Towns();
            }
        }

        int height() {
            return height;
        }

        void clear() {
            height = 0;
        }

        void push(Towns towns) {
            if (height >= copies.length) {
                dropOldest();
            }
            copies[height].copy(towns);
            height++;
        }

        /** Answers false, and changes nothing, if the pile is empty. */
        boolean pop(Towns towns) {
            if (height <= 0) {
                return false;
            }
            height--;
            towns.copy(copies[height]);
            return true;
        }

        private void dropOldest() {
            Towns oldest = copies[0];
            for (int i = 1; i < copies.length; i++) {
                copies[i - 1] = copies[i];
            }
            copies[copies.length - 1] = oldest;
            height = copies.length - 1;
        }
    }

    /** The three shelves, row behind row. */
    private static final class Shelves {
        private final int[] things = new int[SHELVES * PLACES];

        Shelves() {
            clear();
        }

        void clear() {
            for (int i = 0; i < things.length; i++) {
                things[i] = NONE;
            }
        }

        boolean hasPlace(int shelf, int place) {
            return isWithin(shelf, 0, SHELVES - 1) && isWithin(place, 0, PLACES - 1);
        }

        static boolean takes(int shelf, int thing) {
            boolean isStreet = thing >= FIRST_STREET;
            return shelf == 2 || isStreet == (shelf == 1);
        }

        void put(int shelf, int place, int thing) {
            if (hasPlace(shelf, place)) {
                things[shelf * PLACES + place] = thing;
            }
        }

        int thingAt(int shelf, int place) {
            return hasPlace(shelf, place) ? things[shelf * PLACES + place] : NONE;
        }

        int things() {
            int found = 0;
            for (int i = 0; i < things.length; i++) {
                if (things[i] != NONE) {
                    found++;
                }
            }
            return found;
        }
    }

    /** The beliefs in the pairs of some towns, and who is matched with whom. */
    private static final class Matching {
        // By this the beliefs of three rounds, each with eighths, are integers.
        private static final int SCALE = 512;

        // A pair's belief is never below SCALE / 8, so 0 tells that two meetings are no pair.
        private final int[][] beliefs = new int[MOST][MOST];
        private final int[][] before = new int[MOST][MOST];
        private final int[] mates0 = new int[MOST];
        private final int[] mates1 = new int[MOST];
        private final int[] exchanged0 = new int[MOST];
        private final int[] exchanged1 = new int[MOST];
        private int pairs;

        void make(Towns towns) {
            for (int i = 0; i < MOST; i++) {
                for (int j = 0; j < MOST; j++) {
                    beliefs[i][j] = SCALE * firstBelief(towns, i, j);
                }
            }
            for (int round = 0; round < towns.rounds(); round++) {
                improve(towns);
            }
            pairs = pairUp(0, mates0, mates1);
        }

        int pairs() {
            return pairs;
        }

        int beliefIn(int i, int j) {
            return areNumbers(i, j) ? beliefs[i][j] : 0;
        }

        boolean isPair(int i, int j) {
            return beliefIn(i, j) > 0;
        }

        int mateOf(int survey, int i) {
            if (!isWithin(i, 0, MOST - 1)) {
                return NOBODY;
            }
            return survey == 0 ? mates0[i] : mates1[i];
        }

        int unmatched(Towns towns, int survey) {
            int set = 0;
            for (int i = 0; i < towns.surveyOf(survey).meetings(); i++) {
                if (mateOf(survey, i) == NOBODY) {
                    set |= 1 << i;
                }
            }
            return set;
        }

        /** Whether survey 1, when it leads the order of equal beliefs, is matched in the same pairs. */
        boolean isSameExchanged() {
            pairUp(1, exchanged0, exchanged1);
            for (int i = 0; i < MOST; i++) {
                if (mates0[i] != exchanged0[i]) {
                    return false;
                }
            }
            return true;
        }

        /** How many triples of matched meetings have matches that lie in the opposite orientation. */
        int turnedTriples(Towns towns) {
            int meetings = towns.surveyOf(0).meetings();
            int turned = 0;
            for (int a = 0; a < meetings; a++) {
                for (int b = a + 1; b < meetings; b++) {
                    for (int c = b + 1; c < meetings; c++) {
                        if (areMatched(a, b, c) && isTurned(towns, a, b, c)) {
                            turned++;
                        }
                    }
                }
            }
            return turned;
        }

        boolean areMatched(int a, int b, int c) {
            return mateOf(0, a) != NOBODY && mateOf(0, b) != NOBODY && mateOf(0, c) != NOBODY;
        }

        private boolean isTurned(Towns towns, int a, int b, int c) {
            int area = towns.surveyOf(0).twiceArea(a, b, c);
            int areaOfMates = towns.surveyOf(1).twiceArea(mateOf(0, a), mateOf(0, b), mateOf(0, c));
            return area > 0 && areaOfMates < 0 || area < 0 && areaOfMates > 0;
        }

        private static boolean areNumbers(int i, int j) {
            return i >= 0 && i < MOST && j >= 0 && j < MOST;
        }

        private static int firstBelief(Towns towns, int i, int j) {
            if (!towns.surveyOf(0).hasMeeting(i) || !towns.surveyOf(1).hasMeeting(j)) {
                return 0;
            }
            int reach = Math.min(towns.reachOf(0, i), towns.reachOf(1, j));
            int distance = towns.squaredDistance(i, j);
            if (distance > reach * reach) {
                return 0;
            }
            return Math.max(1, towns.radius() * towns.radius() + 1 - distance);
        }

        private void improve(Towns towns) {
            for (int i = 0; i < MOST; i++) {
                System.arraycopy(beliefs[i], 0, before[i], 0, MOST);
            }
            for (int i = 0; i < MOST; i++) {
                for (int j = 0; j < MOST; j++) {
                    if (before[i][j] > 0) {
                        int support = support(towns, 0, i, j) + support(towns, 1, j, i);
                        beliefs[i][j] = before[i][j] / 2 + support / 8;
                    }
                }
            }
        }

        /**
         * For each street at a meeting of this survey the greatest belief that a street at a meeting
         * of the other one gives it, in all.
         */
        private int support(Towns towns, int survey, int meeting, int meetingOfOther) {
            Survey own = towns.surveyOf(survey);
            Survey other = towns.surveyOf(1 - survey);
            int support = 0;
            for (int s = 0; s < own.streets(); s++) {
                int k = own.otherEnd(s, meeting);
                int greatest = 0;
                for (int t = 0; k != NOBODY && t < other.streets(); t++) {
                    int l = other.otherEnd(t, meetingOfOther);
                    int given = survey == 0 ? beliefBefore(k, l) : beliefBefore(l, k);
                    greatest = Math.max(greatest, given);
                }
                support += greatest;
            }
            return support;
        }

        private int beliefBefore(int k, int l) {
            return areNumbers(k, l) ? before[k][l] : 0;
        }

        /**
         * Matches pairs by falling belief, of several first that with the smallest number in the
         * leading survey, and then in the other; answers how many.
         */
        private int pairUp(int leading, int[] of0, int[] of1) {
            for (int i = 0; i < MOST; i++) {
                of0[i] = NOBODY;
                of1[i] = NOBODY;
            }
            int matched = 0;
            while (matched < MOST && pairUpOne(leading, of0, of1)) {
                matched++;
            }
            return matched;
        }

        private boolean pairUpOne(int leading, int[] of0, int[] of1) {
            int greatest = 0;
            int bestI = 0;
            int bestJ = 0;
            for (int a = 0; a < MOST; a++) {
                for (int b = 0; b < MOST; b++) {
                    int i = leading == 0 ? a : b;
                    int j = leading == 0 ? b : a;
                    if (of0[i] == NOBODY && of1[j] == NOBODY && beliefs[i][j] > greatest) {
                        greatest = beliefs[i][j];
                        bestI = i;
                        bestJ = j;
                    }
                }
            }
            if (greatest == 0) {
                return false;
            }
            of0[bestI] = bestJ;
            of1[bestJ] = bestI;
            return true;
        }
    }

    /** The way by which a street is expressed: the first one of the shortest. */
    private static final class Way {
        private final int[] stops = new int[4];
        private int streets;

        boolean isFound() {
            return streets > 0;
        }

        int streets() {
            return streets;
        }

        /** The k-th meeting on the way, or NONE. */
        int stopAt(int k) {
            return isFound() && isWithin(k, 0, streets) ? stops[k] : NONE;
        }

        void find(Survey survey, int from, int to) {
            streets = 0;
            if (!survey.hasMeeting(from) || !survey.hasMeeting(to)) {
                return;
            }
            stops[0] = from;
            if (survey.streetBetween(from, to) != NOBODY) {
                stops[1] = to;
                streets = 1;
            } else if (findOne(survey, from, to)) {
                stops[2] = to;
                streets = 2;
            } else if (findTwo(survey, from, to)) {
                stops[3] = to;
                streets = 3;
            }
        }

        /** The name of all streets of the way; 0 if they differ or there is no way. */
        int commonName(Survey survey) {
            int common = 0;
            for (int n = 0; n < streets && n + 1 < stops.length; n++) {
                int called = survey.nameOf(survey.streetBetween(stops[n], stops[n + 1]));
                if (n > 0 && called != common) {
                    return 0;
                }
                common = called;
            }
            return common;
        }

        /** Finds the meeting between two that are two streets apart. */
        private boolean findOne(Survey survey, int from, int to) {
            for (int m = 0; m < survey.meetings(); m++) {
                if (survey.streetBetween(from, m) != NOBODY && survey.streetBetween(m, to) != NOBODY) {
                    stops[1] = m;
                    return true;
                }
            }
            return false;
        }

        /** Finds the two meetings between two that are three streets apart. */
        private boolean findTwo(Survey survey, int from, int to) {
            for (int m = 0; m < survey.meetings(); m++) {
                for (int n = 0; n < survey.meetings(); n++) {
                    boolean isWay = survey.streetBetween(from, m) != NOBODY
                            && survey.streetBetween(m, n) != NOBODY
                            && survey.streetBetween(n, to) != NOBODY;
                    if (isWay) {
                        stops[1] = m;
                        stops[2] = n;
                        return true;
                    }
                }
            }
            return false;
        }
    }

    /** Where a meeting of survey 0 is transferred to, as two fractions with one denominator. */
    private static final class Transfer {
        private int topX;
        private int topY;
        private int bottom = 1;
        private int cornerA;
        private int cornerB;
        private int cornerC;

        int topOfX() {
            return reduced(topX, topX, bottom);
        }

        int bottomOfX() {
            return reduced(bottom, topX, bottom);
        }

        int topOfY() {
            return reduced(topY, topY, bottom);
        }

        int bottomOfY() {
            return reduced(bottom, topY, bottom);
        }

        void find(Towns towns, Matching matching, int p) {
            Survey survey0 = towns.surveyOf(0);
            Survey survey1 = towns.surveyOf(1);
            int mate = matching.mateOf(0, p);
            if (mate != NOBODY) {
                set(survey1.xOf(mate), survey1.yOf(mate), 1);
            } else if (findTriangle(survey0, matching, p)) {
                blend(towns, matching, p);
            } else {
                follow(towns, matching, p, nearest(survey0, matching, p));
            }
        }

        private void set(int x, int y, int denominator) {
            topX = x;
            topY = y;
            bottom = denominator;
        }

        /** Finds the corners of the triangle that carries p; answers false if there is none. */
        private boolean findTriangle(Survey survey, Matching matching, int p) {
            int smallest = 0;
            for (int a = 0; a < survey.meetings(); a++) {
                for (int b = a + 1; b < survey.meetings(); b++) {
                    for (int c = b + 1; c < survey.meetings(); c++) {
                        int area = Math.abs(survey.twiceArea(a, b, c));
                        boolean isBetter = smallest == 0 || area < smallest;
                        if (area > 0 && isBetter && matching.areMatched(a, b, c)
                                && isInside(survey, p, a, b, c)) {
                            smallest = area;
                            cornerA = a;
                            cornerB = b;
                            cornerC = c;
                        }
                    }
                }
            }
            return smallest > 0;
        }

        private static boolean isInside(Survey survey, int p, int a, int b, int c) {
            // Outside of the triangle the three parts cover more than the triangle.
            int parts = Math.abs(survey.twiceArea(p, b, c)) + Math.abs(survey.twiceArea(a, p, c))
                    + Math.abs(survey.twiceArea(a, b, p));
            return parts == Math.abs(survey.twiceArea(a, b, c));
        }

        private void blend(Towns towns, Matching matching, int p) {
            Survey survey0 = towns.surveyOf(0);
            Survey survey1 = towns.surveyOf(1);
            int weightA = Math.abs(survey0.twiceArea(p, cornerB, cornerC));
            int weightB = Math.abs(survey0.twiceArea(cornerA, p, cornerC));
            int weightC = Math.abs(survey0.twiceArea(cornerA, cornerB, p));
            int a = matching.mateOf(0, cornerA);
            int b = matching.mateOf(0, cornerB);
            int c = matching.mateOf(0, cornerC);
            int x = weightA * survey1.xOf(a) + weightB * survey1.xOf(b) + weightC * survey1.xOf(c);
            int y = weightA * survey1.yOf(a) + weightB * survey1.yOf(b) + weightC * survey1.yOf(c);
            set(x, y, weightA + weightB + weightC);
        }

        /** The matched meeting that is nearest to p, or NOBODY. */
        private static int nearest(Survey survey, Matching matching, int p) {
            int nearest = NOBODY;
            int least = 0;
            for (int i = 0; i < survey.meetings(); i++) {
                int across = survey.xOf(i) - survey.xOf(p);
                int up = survey.yOf(i) - survey.yOf(p);
                int distance = across * across + up * up;
                boolean isNearer = nearest == NOBODY || distance < least;
                if (isNearer && matching.mateOf(0, i) != NOBODY) {
                    nearest = i;
                    least = distance;
                }
            }
            return nearest;
        }

        /** Moves p as its leader is moved; without a leader it stays. */
        private void follow(Towns towns, Matching matching, int p, int leader) {
            Survey survey0 = towns.surveyOf(0);
            Survey survey1 = towns.surveyOf(1);
            int x = survey0.xOf(p);
            int y = survey0.yOf(p);
            if (leader != NOBODY) {
                int mate = matching.mateOf(0, leader);
                x += survey1.xOf(mate) - survey0.xOf(leader);
                y += survey1.yOf(mate) - survey0.yOf(leader);
            }
            set(x, y, 1);
        }

        /** What becomes of one number of a fraction when the fraction is brought to lowest terms. */
        private static int reduced(int number, int top, int denominator) {
            int divisor = Math.abs(top);
            int smaller = denominator;
            // Euclid's remainders of ints come to 0 in less than 50 steps.
            for (int step = 0; step < 64 && smaller != 0; step++) {
                int rest = divisor % smaller;
                divisor = smaller;
                smaller = rest;
            }
            return divisor > 0 ? number / divisor : number;
        }
    }
}
