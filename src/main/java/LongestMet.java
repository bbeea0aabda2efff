/** Whoever waits meets the long one: what is met by its size, and what there is truly. */
public final class LongestMet {
    public static final int NONE = -1, BAD = -2, NOT = -3, FULL = -4;

    private static final int LINES = 2, EITHER = 2, HOUR = 60;
    private static final int LAST_TIME = 999, LAST_DAY = 99, FURTHEST_DAY = 19;
    private static final int MOST_CHILDREN = 8, TOWNS = 4, MOST_ALIKE = 9;
    private static final int PERSONS = 8, MOST_LENGTH = 20, MOST_POINTS = 5;
    private static final int SHEETS = 4, LAST_FORM = 2, MOST_ITEMS = 60;
    private static final int NULL = 1, INDEX = 2, CAST = 3, STORE = 4, SIZE = 5;

    private final Text text = new Text();
    private final Stop stop = new Stop();
    private final Holding holding = new Holding();
    private final Survey survey = new Survey();
    private final Country country = new Country();
    private final Ward beds = new Ward();
    private final Circle circle = new Circle();
    private final Rod rod = new Rod();
    private final Sheets sheets = new Sheets();

    public LongestMet() {
    }

    // ---- buses

    public int type(int b) {
        if (outside(b, 0, 255)) return BAD;
        return text.append(b);
    }

    public int wipe() {
        return text.empty();
    }

    public int fault() {
        return text.scan();
    }

    public int line(int line) {
        if (outside(line, 0, LINES - 1)) return BAD;
        if (text.scan() != NONE) return NOT;
        stop.setLine(line, text.minutesScanned());
        text.empty();
        return stop.busesOf(line);
    }

    public int waits(int who, int minute) {
        if (outside(who, 0, EITHER) || outside(minute, 0, HOUR - 1)) return BAD;
        if (stop.busesOf(who) == 0) return NOT;
        return stop.waitAt(who, minute);
    }

    public int met(int who, int g) {
        if (outside(who, 0, EITHER) || outside(g, 1, HOUR)) return BAD;
        return stop.metBy(who, g);
    }

    public long gaps(int who, int which, int what) {
        if (outside(who, 0, EITHER) || outside(which, 0, 2) || outside(what, 0, 1)) return Fraction.refused(BAD);
        if (stop.busesOf(who) == 0) return Fraction.refused(NOT);
        int among = which == Stop.EACH_ALIKE ? stop.busesOf(who) : HOUR;
        return Fraction.told(stop.sumOfGaps(who, which), among, what);
    }

    public int held(int line, int h, int i) {
        if (outside(line, 0, LINES - 1) || outside(h, 0, Holding.MOST_LATER) || outside(i, NONE, HOUR - 1)) return BAD;
        int buses = stop.busesOf(line);
        if (buses == 0) return NOT;
        if (buses > Holding.MOST_BUSES) return FULL;
        if (i >= buses) return NOT;
        int together = holding.settle(stop.minutesOf(line), h);
        return i == NONE ? together : holding.laterOf(i);
    }

    // ---- families

    public int asked(int n, int time) {
        if (outside(n, 1, MOST_CHILDREN) || survey.cannotBeNow(time)) return BAD;
        return survey.answer(n, time);
    }

    public int read(int s, int time) {
        if (outside(s, 0, SHEETS - 1) || survey.cannotBeNow(time)) return BAD;
        if (sheets.isLost(s)) return sheets.finding(NULL);
        int items = sheets.itemsOf(s);
        for (int i = 0; i < items; i++) {
            if (asked(sheets.itemAt(s, i), time) < 0) return i;
        }
        return items;
    }

    public int takeBack(int answer, int time) {
        if (outside(answer, 0, survey.answersTold() - 1) || survey.cannotBeNow(time)) return BAD;
        if (survey.isTakenBack(answer)) return NOT;
        survey.forget(answer, time);
        return 1;
    }

    public int asOf(int time) {
        if (outside(time, 0, LAST_TIME)) return BAD;
        return survey.lookFrom(time);
    }

    public int said(int n) {
        if (outside(n, 1, MOST_CHILDREN)) return BAD;
        return survey.saying(n);
    }

    public long share(int n, int of, int what) {
        if (outside(n, 1, MOST_CHILDREN) || outside(of, 0, 1) || outside(what, 0, 1)) return Fraction.refused(BAD);
        if (of == 0) return Fraction.told(survey.saying(n), survey.counting(), what);
        return Fraction.told(survey.familyParts(n), survey.allFamilyParts(), what);
    }

    public long size(int of, int what) {
        if (outside(of, 0, 1) || outside(what, 0, 1)) return Fraction.refused(BAD);
        if (of == 0) return Fraction.told(survey.childrenSaid(), survey.counting(), what);
        // each answer n stands for 1 by n families of n children: one child an answer
        return Fraction.told((long) survey.counting() * Survey.PARTS, survey.allFamilyParts(), what);
    }

    public int families(int town, int n, int v) {
        if (outside(town, 0, TOWNS - 1) || outside(n, 1, MOST_CHILDREN) || outside(v, 0, MOST_ALIKE)) return BAD;
        return country.setFamilies(town, n, v);
    }

    public long chance(int town, int what) {
        if (outside(town, 0, TOWNS - 1) || outside(what, 0, 1)) return Fraction.refused(BAD);
        if (survey.counting() > Country.MOST_ASKED) return Fraction.refused(FULL);
        if (country.hasFewer(town, survey)) return Fraction.refused(NOT);
        return Fraction.told(country.choicesThatFit(town, survey), country.choices(town, survey), what);
    }

    public int likeliest() {
        if (survey.counting() > Country.MOST_ASKED) return FULL;
        return country.likeliestTown(survey);
    }

    // ---- wards

    public int stay(int from, int to) {
        if (outside(from, 0, LAST_DAY) || cannotEnd(from, to)) return BAD;
        return beds.admit(from, to);
    }

    public int leaves(int stay, int to) {
        if (outside(stay, 0, beds.staysTold() - 1) || cannotEnd(beds.firstDay(stay), to)) return BAD;
        return beds.endOn(stay, to);
    }

    public int ward(int from, int to, int what) {
        if (isNoSpan(from, to) || outside(what, 0, 3)) return BAD;
        if (what == 0) return (int) beds.sum(from, to, Ward.COMERS);
        if (what == 1) return (int) beds.sum(from, to, Ward.THERE);
        if (what == 2) return (int) beds.sum(from, to, Ward.BEDS);
        if (beds.sum(from, to, Ward.COMERS) == 0) return NOT;
        // RATE times MEAN LENGTH is all LENGTHS of COMERS by DAYS, FILL is BEDS by as many DAYS
        return beds.sum(from, to, Ward.LENGTH_OF_COMERS) == beds.sum(from, to, Ward.BEDS) ? 1 : 0;
    }

    public long means(int from, int to, int which, int what) {
        if (isNoSpan(from, to) || outside(which, 0, 5) || outside(what, 0, 1)) return Fraction.refused(BAD);
        return Fraction.told(beds.above(from, to, which), beds.below(from, to, which), what);
    }

    public int fullest(int what) {
        if (outside(what, 0, 2)) return BAD;
        if (what == 2) return beds.mostApart();
        int day = beds.fullestDay();
        return what == 0 ? day : beds.lyingOn(day);
    }

    // ---- friends

    public int friends(int a, int b, int v) {
        if (outside(a, 0, PERSONS - 1) || outside(b, 0, PERSONS - 1) || outside(v, 0, 1) || a == b) return BAD;
        return circle.setFriends(a, b, v);
    }

    public long mean(int which, int what) {
        if (outside(which, 0, 2) || outside(what, 0, 1)) return Fraction.refused(BAD);
        if (which == 0) return Fraction.told(circle.tellings(), PERSONS, what);
        if (which == 1) return Fraction.told(circle.friendsOfFriends(), circle.tellings(), what);
        return Fraction.told(circle.friendsOfPicked(), Circle.ALL_PARTS, what);
    }

    public int fewer() {
        return circle.withFewer();
    }

    public long picked(int person, int what) {
        if (outside(person, 0, PERSONS - 1) || outside(what, 0, 1)) return Fraction.refused(BAD);
        return Fraction.told(circle.pickedParts(person), Circle.ALL_PARTS, what);
    }

    public int best(int k, int what) {
        if (outside(k, 1, PERSONS) || outside(what, 0, 1)) return BAD;
        int group = circle.bestGroup(k);
        return what == 0 ? group : circle.friendshipsOf(group);
    }

    // ---- sticks

    public int piece(int length) {
        if (outside(length, 1, MOST_LENGTH)) return BAD;
        return rod.lengthen(length);
    }

    public int snap() {
        return rod.clear();
    }

    public long hit(int piece, int k, int what) {
        if (outside(piece, 0, rod.piecesTold() - 1) || outside(k, 1, MOST_POINTS) || outside(what, 0, 1)) return Fraction.refused(BAD);
        return Fraction.told(rod.waysToHit(piece, k), rod.ways(k), what);
    }

    public long stick(int which, int k, int what) {
        if (outside(which, 0, 2) || outside(k, 1, which == 0 ? 1 : MOST_POINTS) || outside(what, 0, 1)) return Fraction.refused(BAD);
        if (which == 0) return Fraction.told(rod.squares(), rod.lengthInAll(), what);
        if (which == 1) return Fraction.told(rod.allWaysToHit(k), rod.ways(k), what);
        return Fraction.told(rod.waysToHitAll(k), rod.ways(k), what);
    }

    // ---- sheets

    public int sheet(int s, int form, int n) {
        if (outside(s, 0, SHEETS - 1) || outside(form, 0, LAST_FORM) || n > MOST_ITEMS) return BAD;
        if (n < 0) return sheets.finding(SIZE);
        sheets.renew(s, form, n);
        return n;
    }

    public int lose(int s) {
        if (outside(s, 0, SHEETS - 1)) return BAD;
        if (sheets.isLost(s)) return sheets.finding(NULL);
        return sheets.drop(s);
    }

    public int put(int s, int form, int i, int v) {
        if (outside(s, 0, SHEETS - 1) || outside(form, 0, LAST_FORM)) return BAD;
        int number = sheets.faultOf(s, form, i);
        if (number != 0) return sheets.finding(number);
        sheets.setItem(s, i, v);
        return 1;
    }

    public int get(int s, int form, int i) {
        if (outside(s, 0, SHEETS - 1) || outside(form, 0, LAST_FORM)) return Integer.MIN_VALUE;
        int number = sheets.faultOf(s, form, i);
        if (number != 0) {
            sheets.finding(number);
            return Integer.MIN_VALUE;
        }
        return sheets.itemAt(s, i);
    }

    public int copy(int s, int i, int t, int j, int n) {
        if (outside(s, 0, SHEETS - 1) || outside(t, 0, SHEETS - 1)) return BAD;
        if (sheets.isLost(s) || sheets.isLost(t)) return sheets.finding(NULL);
        if (sheets.areUnlike(s, t)) return sheets.finding(STORE);
        if (sheets.hasNotSoMany(s, i, n) || sheets.hasNotSoMany(t, j, n)) return sheets.finding(INDEX);
        sheets.move(s, i, t, j, n);
        return 1;
    }

    public int write(int who, int s) {
        if (outside(who, 0, EITHER) || outside(s, 0, SHEETS - 1)) return BAD;
        if (sheets.isLost(s)) return sheets.finding(NULL);
        if (stop.busesOf(who) == 0) return NOT;
        int items = sheets.itemsOf(s);
        for (int minute = 0; minute < items; minute++) {
            sheets.setItem(s, minute, stop.waitAt(who, minute));
        }
        return items;
    }

    public int count(int what) {
        switch (what) {
            case 0:
            case 1:
                return stop.busesOf(what);
            case 2:
                return text.bytesTyped();
            case 3:
                return survey.answersTold();
            case 4:
                return survey.counting();
            case 5:
                return beds.staysTold();
            case 6:
                return circle.tellings() / 2;
            case 7:
                return rod.lengthInAll();
            case 8:
                return sheets.latestFinding();
            default:
                return BAD;
        }
    }

    public long digest() {
        long h = 17;
        for (int what = 0; what <= 7; what++) h = behind(h, count(what));
        h = behind(h, fault());
        for (int who = 0; who <= EITHER; who++) {
            for (int which = 0; which <= 2; which++) {
                for (int what = 0; what <= 1; what++) h = behind(h, gaps(who, which, what));
            }
        }
        for (int line = 0; line < LINES; line++) h = behind(h, held(line, 2, NONE));
        for (int of = 0; of <= 1; of++) {
            for (int what = 0; what <= 1; what++) h = behind(h, size(of, what));
        }
        h = behind(h, likeliest());
        for (int what = 0; what <= 3; what++) h = behind(h, ward(10, 30, what));
        for (int which = 0; which <= 5; which++) {
            for (int what = 0; what <= 1; what++) h = behind(h, means(10, 30, which, what));
        }
        for (int what = 0; what <= 2; what++) h = behind(h, fullest(what));
        for (int which = 0; which <= 2; which++) {
            for (int what = 0; what <= 1; what++) h = behind(h, mean(which, what));
        }
        h = behind(h, fewer());
        h = behind(h, best(2, 0));
        for (int which = 0; which <= 2; which++) {
            for (int what = 0; what <= 1; what++) h = behind(h, stick(which, 1, what));
        }
        return h;
    }

    private static long behind(long h, long next) {
        return 31 * h + next;
    }

    private static boolean outside(int number, int least, int most) {
        return number < least || number > most;
    }

    private static boolean cannotEnd(int from, int to) {
        return outside(to, from, Math.min(LAST_DAY, from + FURTHEST_DAY));
    }

    private static boolean isNoSpan(int from, int to) {
        return outside(from, 0, LAST_DAY) || outside(to, from, LAST_DAY);
    }

    /** Answers that are long: fractions in lowest terms, and refusals. */
    private static final class Fraction {
        // Euclid's way with longs ends within some 92 steps
        private static final int STEPS = 200;

        static long refused(int answer) {
            return Long.MIN_VALUE - answer;
        }

        /** The upper (what = 0) or lower number; NOT where there is none to divide by. */
        static long told(long above, long below, int what) {
            long common = commonOf(above, below);
            if (below <= 0 || common <= 0) return refused(NOT);
            return what == 0 ? above / common : below / common;
        }

        private static long commonOf(long a, long b) {
            long greater = a;
            long less = b;
            for (int step = 0; step < STEPS && less != 0; step++) {
                long rest = greater % less;
                greater = less;
                less = rest;
            }
            return greater;
        }

        /**
         * Whether a by b is more than c by d. Products of these could pass the longs,
         * so whole parts are compared, then what is left, turned upside down.
         */
        static boolean isMore(long a, long b, long c, long d) {
            long up = a, low = b, otherUp = c, otherLow = d;
            boolean turned = false;
            for (int step = 0; step < STEPS && low > 0 && otherLow > 0; step++) {
                long whole = up / low;
                long otherWhole = otherUp / otherLow;
                if (whole != otherWhole) return (whole > otherWhole) != turned;
                long rest = up % low;
                long otherRest = otherUp % otherLow;
                up = low;
                low = rest;
                otherUp = otherLow;
                otherLow = otherRest;
                turned = !turned;
            }
            if (low == otherLow) return false;
            // nothing is left of just one of them: upside down, that one is beyond all
            return (low == 0) != turned;
        }
    }

    /** The bytes that were typed, and what they tell when they are read as a LINE. */
    private static final class Text {
        private static final int MOST_BYTES = 40, END = -1;

        private final int[] bytes = new int[MOST_BYTES];
        private int length = 0;
        private int place = 0;
        private long minutes = 0;

        int append(int b) {
            if (length >= MOST_BYTES) return FULL;
            bytes[length] = b;
            length++;
            return length;
        }

        int empty() {
            int had = length;
            length = 0;
            return had;
        }

        int bytesTyped() {
            return length;
        }

        /** Bit m: MINUTE m was told, by the part of the text that scan() came through. */
        long minutesScanned() {
            return minutes;
        }

        /** The place of the FAULT, or NONE. */
        int scan() {
            place = 0;
            minutes = 0;
            for (int part = 0; part <= MOST_BYTES; part++) {
                int fault = scanPart();
                if (fault != NONE) return fault;
                if (ahead() == END) return NONE;
                if (ahead() != ',') return place;
                place++;
            }
            return place;
        }

        private int scanPart() {
            int start = place;
            int minute = scanNumber();
            if (outside(minute, 0, HOUR - 1)) return start;
            if (ahead() != '+') {
                minutes |= 1L << minute;
                return NONE;
            }
            place++;
            start = place;
            int step = scanNumber();
            if (outside(step, 1, HOUR - 1)) return start;
            for (int m = minute; m < HOUR; m += step) minutes |= 1L << m;
            return NONE;
        }

        /** The number of one or two figures that stands here; NONE where no figure does. */
        private int scanNumber() {
            int number = NONE;
            for (int figures = 0; figures < 2 && !outside(ahead(), '0', '9'); figures++) {
                number = 10 * Math.max(number, 0) + ahead() - '0';
                place++;
            }
            return number;
        }

        private int ahead() {
            return place < length ? bytes[place] : END;
        }
    }

    /** When buses go, and how long one waits for them. */
    private static final class Stop {
        static final int EACH_ALIKE = 0, AS_MET = 1;

        // bit m: a bus of the line goes at minute m
        private final long[] lines = new long[LINES];

        void setLine(int line, long minutes) {
            lines[line] = minutes;
        }

        long minutesOf(int who) {
            return who == EITHER ? lines[0] | lines[1] : lines[who];
        }

        int busesOf(int who) {
            return Long.bitCount(minutesOf(who));
        }

        /** Minutes from this one to the first bus at it or later; an hour where there is no bus. */
        int waitAt(int who, int minute) {
            long minutes = minutesOf(who);
            for (int wait = 0; wait < HOUR; wait++) {
                if (isIn(minutes, (minute + wait) % HOUR)) return wait;
            }
            return HOUR;
        }

        int metBy(int who, int g) {
            long minutes = minutesOf(who);
            int met = 0;
            for (int minute = 0; minute < HOUR; minute++) {
                if (isIn(minutes, minute) && gapBehind(who, minute) == g) met += g;
            }
            return met;
        }

        /** Gaps together, each once; as often as they are met; or all waits in them. */
        int sumOfGaps(int who, int which) {
            long minutes = minutesOf(who);
            int sum = 0;
            for (int minute = 0; minute < HOUR; minute++) {
                if (isIn(minutes, minute)) sum += weightOf(gapBehind(who, minute), which);
            }
            return sum;
        }

        private static int weightOf(int gap, int which) {
            if (which == EACH_ALIKE) return gap;
            return which == AS_MET ? gap * gap : waitsIn(gap);
        }

        private int gapBehind(int who, int minute) {
            return 1 + waitAt(who, (minute + 1) % HOUR);
        }

        static boolean isIn(long minutes, int minute) {
            return ((minutes >>> minute) & 1) != 0;
        }

        /** Who comes in a gap waits for 0, 1, 2 .. minutes, up to one less than the gap. */
        static int waitsIn(int gap) {
            return gap * (gap - 1) / 2;
        }
    }

    /** By how much each bus of a line is held back so that all wait least. */
    private static final class Holding {
        static final int MOST_BUSES = 12, MOST_LATER = 5;
        private static final int CANNOT = 1000000;

        private final int[] goes = new int[MOST_BUSES];
        private final int[] later = new int[MOST_BUSES];
        // least waits from a bus on to the end of the hour's round, by how much it goes later
        private final int[][] onward = new int[MOST_BUSES][MOST_LATER + 1];
        private int buses = 0;
        private int latest = 0;

        /** All waits together, when each bus goes up to h minutes later. */
        int settle(long minutes, int h) {
            takeBuses(minutes);
            latest = h;
            int least = CANNOT;
            int first = 0;
            for (int d = 0; d <= latest; d++) {
                int together = leastWithFirst(d);
                if (together < least) {
                    least = together;
                    first = d;
                }
            }
            leastWithFirst(first);
            chooseLater(first);
            return least;
        }

        int laterOf(int bus) {
            return later[bus];
        }

        private void takeBuses(long minutes) {
            buses = 0;
            for (int minute = 0; minute < HOUR && buses < MOST_BUSES; minute++) {
                if (Stop.isIn(minutes, minute)) {
                    goes[buses] = minute;
                    buses++;
                }
            }
        }

        /** The last gap ends with the first bus, so each place of that one is tried apart. */
        private int leastWithFirst(int d) {
            int end = HOUR + goes[0] + d;
            for (int bus = buses - 1; bus >= 0; bus--) {
                for (int e = 0; e <= latest; e++) onward[bus][e] = leastOnward(bus, e, end);
            }
            return onward[0][d];
        }

        private int leastOnward(int bus, int d, int end) {
            int now = goes[bus] + d;
            if (now >= HOUR) return CANNOT;
            if (bus == buses - 1) return Stop.waitsIn(end - now);
            int least = CANNOT;
            for (int e = 0; e <= latest; e++) least = Math.min(least, through(now, bus + 1, e));
            return least;
        }

        /** Least waits from now on, if the next bus goes later by e. */
        private int through(int now, int next, int e) {
            int then = goes[next] + e;
            return then > now ? Stop.waitsIn(then - now) + onward[next][e] : CANNOT;
        }

        private void chooseLater(int first) {
            later[0] = first;
            for (int bus = 1; bus < buses; bus++) {
                int before = later[bus - 1];
                later[bus] = leastLater(bus, goes[bus - 1] + before, onward[bus - 1][before]);
            }
        }

        private int leastLater(int bus, int now, int together) {
            for (int e = 0; e < latest; e++) {
                if (through(now, bus, e) == together) return e;
            }
            return latest;
        }
    }

    /** What children answered, when, and what was taken back. */
    private static final class Survey {
        static final int PARTS = 840; // can be divided by 1 to 8
        private static final int MOST_ANSWERS = 40, NEVER = LAST_TIME + 1;

        private final int[] answers = new int[MOST_ANSWERS];
        private final int[] toldAt = new int[MOST_ANSWERS];
        private final int[] backAt = new int[MOST_ANSWERS];
        private int told = 0;
        private int now = 0;
        private int seenFrom = LAST_TIME;

        boolean cannotBeNow(int time) {
            return outside(time, now, LAST_TIME);
        }

        int answer(int n, int time) {
            if (told >= MOST_ANSWERS) return FULL;
            answers[told] = n;
            toldAt[told] = time;
            backAt[told] = NEVER;
            now = time;
            told++;
            return told - 1;
        }

        int answersTold() {
            return told;
        }

        boolean isTakenBack(int answer) {
            return backAt[answer] != NEVER;
        }

        void forget(int answer, int time) {
            backAt[answer] = time;
            now = time;
        }

        int lookFrom(int time) {
            int was = seenFrom;
            seenFrom = time;
            return was;
        }

        int saying(int n) {
            int saying = 0;
            for (int a = 0; a < told; a++) {
                if (answers[a] == n && counts(a)) saying++;
            }
            return saying;
        }

        int counting() {
            int counting = 0;
            for (int a = 0; a < told; a++) {
                if (counts(a)) counting++;
            }
            return counting;
        }

        int childrenSaid() {
            int children = 0;
            for (int n = 1; n <= MOST_CHILDREN; n++) children += n * saying(n);
            return children;
        }

        /** Families of n children by the answers, in parts of one family. */
        int familyParts(int n) {
            return n > 0 ? saying(n) * (PARTS / n) : 0;
        }

        int allFamilyParts() {
            int parts = 0;
            for (int n = 1; n <= MOST_CHILDREN; n++) parts += familyParts(n);
            return parts;
        }

        private boolean counts(int answer) {
            return toldAt[answer] <= seenFrom && backAt[answer] > seenFrom;
        }
    }

    /** The families of towns, and how likely it is that their children answer as was said. */
    private static final class Country {
        static final int MOST_ASKED = 8; // with more, choices could pass the longs

        private final int[][] alike = new int[TOWNS][MOST_CHILDREN + 1];

        int setFamilies(int town, int n, int v) {
            int were = alike[town][n];
            alike[town][n] = v;
            return were;
        }

        boolean hasFewer(int town, Survey survey) {
            return childrenOf(town) < survey.counting();
        }

        long choices(int town, Survey survey) {
            return choose(childrenOf(town), survey.counting());
        }

        long choicesThatFit(int town, Survey survey) {
            long fit = 1;
            for (int n = 1; n <= MOST_CHILDREN; n++) fit *= choose(n * alike[town][n], survey.saying(n));
            return fit;
        }

        int likeliestTown(Survey survey) {
            int likeliest = NONE;
            long above = 0;
            long below = 1;
            for (int town = 0; town < TOWNS; town++) {
                if (hasFewer(town, survey)) continue;
                long fit = choicesThatFit(town, survey);
                long all = choices(town, survey);
                if (Fraction.isMore(fit, all, above, below)) {
                    likeliest = town;
                    above = fit;
                    below = all;
                }
            }
            return likeliest;
        }

        private int childrenOf(int town) {
            int children = 0;
            for (int n = 1; n <= MOST_CHILDREN; n++) children += n * alike[town][n];
            return children;
        }

        private static long choose(int among, int chosen) {
            if (chosen > among) return 0;
            long ways = 1;
            for (int i = 1; i <= chosen; i++) ways = ways * (among - chosen + i) / i;
            return ways;
        }
    }

    /** Who lies in the ward, from which day to which. */
    private static final class Ward {
        static final int COMERS = 0, THERE = 1, BEDS = 2, LENGTH_OF_COMERS = 3, LENGTH_OF_THERE = 4;
        private static final int LENGTH_MET = 5, DAY_PARTS = 6;
        private static final int MOST_STAYS = 24;
        private static final long PARTS = 232792560L; // can be divided by 1 to 20

        private final int[] first = new int[MOST_STAYS];
        private final int[] last = new int[MOST_STAYS];
        private int stays = 0;

        int admit(int from, int to) {
            if (stays >= MOST_STAYS) return FULL;
            first[stays] = from;
            last[stays] = to;
            stays++;
            return stays - 1;
        }

        int staysTold() {
            return stays;
        }

        int firstDay(int stay) {
            return first[stay];
        }

        int endOn(int stay, int to) {
            int was = last[stay];
            last[stay] = to;
            return was;
        }

        long sum(int from, int to, int kind) {
            long sum = 0;
            for (int stay = 0; stay < stays; stay++) sum += weight(stay, from, to, kind);
            return sum;
        }

        private long weight(int stay, int from, int to, int kind) {
            int length = last[stay] - first[stay] + 1;
            int days = Math.min(last[stay], to) - Math.max(first[stay], from) + 1;
            if (days <= 0 || length <= 0) return 0;
            boolean comes = first[stay] >= from;
            switch (kind) {
                case COMERS:
                    return comes ? 1 : 0;
                case THERE:
                    return 1;
                case BEDS:
                    return days;
                case LENGTH_OF_COMERS:
                    return comes ? length : 0;
                case LENGTH_OF_THERE:
                    return length;
                case LENGTH_MET:
                    return days * length;
                default:
                    return days * (PARTS / length);
            }
        }

        long above(int from, int to, int which) {
            switch (which) {
                case 0:
                    return sum(from, to, LENGTH_OF_COMERS);
                case 1:
                    return sum(from, to, LENGTH_OF_THERE);
                case 2:
                    return sum(from, to, LENGTH_MET);
                case 3:
                    return sum(from, to, BEDS) * PARTS;
                case 4:
                    return sum(from, to, COMERS);
                default:
                    return sum(from, to, BEDS);
            }
        }

        long below(int from, int to, int which) {
            switch (which) {
                case 0:
                    return sum(from, to, COMERS);
                case 1:
                    return sum(from, to, THERE);
                case 2:
                    return sum(from, to, BEDS);
                case 3:
                    return sum(from, to, DAY_PARTS);
                default:
                    return to - from + 1;
            }
        }

        int lyingOn(int day) {
            return (int) sum(day, day, THERE);
        }

        int fullestDay() {
            int fullest = 0;
            int most = 0;
            for (int day = 0; day <= LAST_DAY; day++) {
                int lying = lyingOn(day);
                if (lying > most) {
                    fullest = day;
                    most = lying;
                }
            }
            return fullest;
        }

        /** Whoever ends first leaves most room for others, so that one is taken each time. */
        int mostApart() {
            int apart = 0;
            int free = 0;
            for (int round = 0; round < MOST_STAYS; round++) {
                int end = firstEnd(free);
                if (end == NONE) return apart;
                apart++;
                free = end + 1;
            }
            return apart;
        }

        /** The first day on which a stay ends that begins on the free day or later. */
        private int firstEnd(int free) {
            int end = NONE;
            for (int stay = 0; stay < stays; stay++) {
                if (first[stay] >= free && (end == NONE || last[stay] < end)) end = last[stay];
            }
            return end;
        }
    }

    /** Who is whose friend. */
    private static final class Circle {
        private static final int PARTS = 420; // can be divided by 1 to 7
        static final int ALL_PARTS = PERSONS * PARTS;

        // bit b of a's: b is a friend of a
        private final int[] hers = new int[PERSONS];

        int setFriends(int a, int b, int v) {
            int were = (hers[a] >>> b) & 1;
            if (were != v) {
                hers[a] ^= 1 << b;
                hers[b] ^= 1 << a;
            }
            return were;
        }

        /** Each friendship told from both. */
        int tellings() {
            int tellings = 0;
            for (int p = 0; p < PERSONS; p++) tellings += friendsOf(p);
            return tellings;
        }

        int friendsOfFriends() {
            int friends = 0;
            for (int p = 0; p < PERSONS; p++) friends += friendsOfHers(p);
            return friends;
        }

        /** Friends of who is picked, times her parts, together. */
        int friendsOfPicked() {
            int friends = 0;
            for (int p = 0; p < PERSONS; p++) friends += pickedParts(p) * friendsOf(p);
            return friends;
        }

        int withFewer() {
            int bits = 0;
            for (int p = 0; p < PERSONS; p++) {
                // one who has no friends has no fewer: 0 is not less than 0
                if (friendsOf(p) * friendsOf(p) < friendsOfHers(p)) bits |= 1 << p;
            }
            return bits;
        }

        /** The chance that a person is picked, in parts. */
        int pickedParts(int person) {
            if (friendsOf(person) == 0) return PARTS;
            int parts = 0;
            for (int p = 0; p < PERSONS; p++) {
                if (isFriend(person, p) && friendsOf(p) > 0) parts += PARTS / friendsOf(p);
            }
            return parts;
        }

        int bestGroup(int k) {
            int best = 0;
            int most = NONE;
            for (int group = 1; group < 1 << PERSONS; group++) {
                if (Integer.bitCount(group) == k && friendshipsOf(group) > most) {
                    best = group;
                    most = friendshipsOf(group);
                }
            }
            return best;
        }

        /** Friendships of which at least one is in the group. */
        int friendshipsOf(int group) {
            int twice = 0;
            for (int p = 0; p < PERSONS; p++) {
                // those inside the group are told from both, those that lead out from one alone
                if (((group >>> p) & 1) != 0) twice += 2 * friendsOf(p) - Integer.bitCount(hers[p] & group);
            }
            return twice / 2;
        }

        private int friendsOfHers(int person) {
            int friends = 0;
            for (int p = 0; p < PERSONS; p++) {
                if (isFriend(person, p)) friends += friendsOf(p);
            }
            return friends;
        }

        private int friendsOf(int person) {
            return Integer.bitCount(hers[person]);
        }

        private boolean isFriend(int a, int b) {
            return ((hers[a] >>> b) & 1) != 0;
        }
    }

    /** A stick, and in how many ways points hit its pieces, each part of length 1 alike. */
    private static final class Rod {
        private static final int MOST_PIECES = 8;

        private final int[] lengths = new int[MOST_PIECES];
        private int pieces = 0;

        int lengthen(int length) {
            if (pieces >= MOST_PIECES) return FULL;
            lengths[pieces] = length;
            pieces++;
            return pieces;
        }

        int clear() {
            int had = pieces;
            pieces = 0;
            return had;
        }

        int piecesTold() {
            return pieces;
        }

        int lengthInAll() {
            int length = 0;
            for (int p = 0; p < pieces; p++) length += lengths[p];
            return length;
        }

        int squares() {
            int squares = 0;
            for (int p = 0; p < pieces; p++) squares += lengths[p] * lengths[p];
            return squares;
        }

        long ways(int k) {
            return power(lengthInAll(), k);
        }

        long waysToHit(int piece, int k) {
            return ways(k) - power(lengthInAll() - lengths[piece], k);
        }

        long allWaysToHit(int k) {
            long ways = 0;
            for (int p = 0; p < pieces; p++) ways += waysToHit(p, k);
            return ways;
        }

        /** Of all ways those that miss a set of pieces, taken away and given back by turns. */
        long waysToHitAll(int k) {
            long ways = 0;
            for (int missed = 0; missed < 1 << pieces; missed++) {
                long ofThese = power(lengthWithout(missed), k);
                ways += Integer.bitCount(missed) % 2 == 0 ? ofThese : -ofThese;
            }
            return ways;
        }

        private int lengthWithout(int missed) {
            int length = 0;
            for (int p = 0; p < pieces; p++) {
                if (((missed >>> p) & 1) == 0) length += lengths[p];
            }
            return length;
        }

        private static long power(long base, int k) {
            long power = 1;
            for (int i = 0; i < k; i++) power *= base;
            return power;
        }
    }

    /** Rows of bytes, shorts or ints, kept as ints that never pass their form. */
    private static final class Sheets {
        private static final int BYTES = 0, SHORTS = 1, LOST = -1;

        private final int[][] rows = new int[SHEETS][MOST_ITEMS];
        private final int[] forms = new int[SHEETS];
        private final int[] sizes = new int[SHEETS];
        private int latest = 0;

        Sheets() {
            for (int s = 0; s < SHEETS; s++) sizes[s] = LOST;
        }

        int finding(int number) {
            latest = number;
            return -10 - number;
        }

        int latestFinding() {
            return latest;
        }

        boolean isLost(int s) {
            return sizes[s] == LOST;
        }

        int itemsOf(int s) {
            return sizes[s];
        }

        void renew(int s, int form, int n) {
            forms[s] = form;
            sizes[s] = n;
            for (int i = 0; i < n; i++) rows[s][i] = 0;
        }

        int drop(int s) {
            int had = sizes[s];
            sizes[s] = LOST;
            return had;
        }

        /** The number of the finding about an item that is treated as of a form; 0: none. */
        int faultOf(int s, int form, int i) {
            if (isLost(s)) return NULL;
            if (forms[s] != form) return CAST;
            return outside(i, 0, sizes[s] - 1) ? INDEX : 0;
        }

        int itemAt(int s, int i) {
            return rows[s][i];
        }

        void setItem(int s, int i, int v) {
            rows[s][i] = forms[s] == BYTES ? (byte) v : forms[s] == SHORTS ? (short) v : v;
        }

        boolean areUnlike(int s, int t) {
            return forms[s] != forms[t];
        }

        boolean hasNotSoMany(int s, int from, int n) {
            return outside(from, 0, sizes[s]) || outside(n, 0, sizes[s] - from);
        }

        void move(int s, int i, int t, int j, int n) {
            System.arraycopy(rows[s], i, rows[t], j, n);
        }
    }
}
