import java.math.BigInteger;
import java.util.ArrayList;
import java.util.Arrays;
import java.util.List;

/**
 * The document again, in its slowest and plainest words: what is met is walked through minute by minute,
 * day by day, child by child, point by point, so that it shares no formula with the program.
 */
final class PlainModel {
    static final int NONE = -1, BAD = -2, NOT = -3, FULL = -4;
    private static final int NULL = 1, INDEX = 2, CAST = 3, STORE = 4, SIZE = 5;

    /** A fraction in lowest terms. */
    record Part(BigInteger above, BigInteger below) {
        static Part of(long above, long below) {
            return of(BigInteger.valueOf(above), BigInteger.valueOf(below));
        }

        static Part of(BigInteger above, BigInteger below) {
            BigInteger g = above.gcd(below);
            return new Part(above.divide(g), below.divide(g));
        }

        Part plus(Part o) {
            return of(above.multiply(o.below).add(o.above.multiply(below)), below.multiply(o.below));
        }

        Part times(Part o) {
            return of(above.multiply(o.above), below.multiply(o.below));
        }

        Part by(Part o) {
            return of(above.multiply(o.below), below.multiply(o.above));
        }

        int compareWith(Part o) {
            return above.multiply(o.below).compareTo(o.above.multiply(below));
        }

        long told(int what) {
            return (what == 0 ? above : below).longValueExact();
        }
    }

    private static final Part ZERO = Part.of(0, 1), ONE = Part.of(1, 1);

    private record Answer(int n, int told, int[] back) {
    }

    private record Held(int together, List<Integer> later) {
    }

    private String text = "";
    private final boolean[][] buses = new boolean[2][60];
    private final List<Answer> answers = new ArrayList<>();
    private int now = 0;
    private int asOf = 999;
    private final int[][] families = new int[4][9];
    private final List<int[]> stays = new ArrayList<>();
    private final boolean[][] friends = new boolean[8][8];
    private final List<Integer> pieces = new ArrayList<>();
    private final int[][] sheets = new int[4][];
    private final int[] forms = new int[4];
    private int latest = 0;

    private static boolean in(int x, int least, int most) {
        return least <= x && x <= most;
    }

    private static long refused(int answer) {
        return Long.MIN_VALUE + -answer;
    }

    private int finding(int number) {
        latest = number;
        return -10 - number;
    }

    // ---- buses

    int type(int b) {
        if (!in(b, 0, 255)) return BAD;
        if (text.length() == 40) return FULL;
        text += (char) b;
        return text.length();
    }

    int wipe() {
        int had = text.length();
        text = "";
        return had;
    }

    /** State by state: 0 a number must begin, 1, 2 behind its first, second figure; + 3 behind the +. */
    int fault() {
        int state = 0;
        int start = 0;
        for (int at = 0; at <= text.length(); at++) {
            int c = at < text.length() ? text.charAt(at) : -1;
            boolean figure = c >= '0' && c <= '9';
            if (figure && state % 3 < 2) {
                if (state % 3 == 0) start = at;
                state++;
                continue;
            }
            if (state % 3 == 0) return at;
            int number = Integer.parseInt(text.substring(start, at));
            if (number > 59 || state >= 3 && number == 0) return start;
            if (c == -1) return NONE;
            if (c == ',') state = 0;
            else if (c == '+' && state < 3) state = 3;
            else return at;
        }
        return NONE;
    }

    int line(int line) {
        if (!in(line, 0, 1)) return BAD;
        if (fault() != NONE) return NOT;
        Arrays.fill(buses[line], false);
        for (String part : text.split(",")) {
            String[] numbers = part.split("\\+");
            int step = numbers.length == 2 ? Integer.parseInt(numbers[1]) : 60;
            for (int m = Integer.parseInt(numbers[0]); m < 60; m += step) buses[line][m] = true;
        }
        text = "";
        return minutesOf(line).size();
    }

    private boolean goes(int who, int minute) {
        int m = Math.floorMod(minute, 60);
        return who == 2 ? buses[0][m] || buses[1][m] : buses[who][m];
    }

    private List<Integer> minutesOf(int who) {
        List<Integer> minutes = new ArrayList<>();
        for (int m = 0; m < 60; m++) {
            if (goes(who, m)) minutes.add(m);
        }
        return minutes;
    }

    private int plainWait(int who, int minute) {
        int m = minute;
        while (!goes(who, m)) m++;
        return m - minute;
    }

    /** The gap that ends with the bus that who comes at this minute takes. */
    private int plainMet(int who, int minute) {
        int end = minute + plainWait(who, minute);
        int begin = end - 1;
        while (!goes(who, begin)) begin--;
        return end - begin;
    }

    int waits(int who, int minute) {
        if (!in(who, 0, 2) || !in(minute, 0, 59)) return BAD;
        if (minutesOf(who).isEmpty()) return NOT;
        return plainWait(who, minute);
    }

    int met(int who, int g) {
        if (!in(who, 0, 2) || !in(g, 1, 60)) return BAD;
        if (minutesOf(who).isEmpty()) return 0;
        int met = 0;
        for (int m = 0; m < 60; m++) {
            if (plainMet(who, m) == g) met++;
        }
        return met;
    }

    long gaps(int who, int which, int what) {
        if (!in(who, 0, 2) || !in(which, 0, 2) || !in(what, 0, 1)) return refused(BAD);
        if (minutesOf(who).isEmpty()) return refused(NOT);
        int sum = 0;
        int among = 0;
        for (int m = 0; m < 60; m++) {
            if (which == 0 && !goes(who, m)) continue;
            among++;
            sum += which == 2 ? plainWait(who, m) : plainMet(who, m);
        }
        return Part.of(sum, among).told(what);
    }

    int held(int line, int h, int i) {
        if (!in(line, 0, 1) || !in(h, 0, 5) || !in(i, -1, 59)) return BAD;
        List<Integer> goes = minutesOf(line);
        if (goes.isEmpty()) return NOT;
        if (goes.size() > 12) return FULL;
        if (i >= goes.size()) return NOT;
        Held best = null;
        for (int d = 0; d <= h; d++) {
            if (goes.get(0) + d > 59) continue;
            Held held = onward(goes, h, 0, d, goes.get(0) + d, new Held[goes.size()][h + 1]);
            if (held != null && (best == null || held.together < best.together)) best = held;
        }
        return i == NONE ? best.together : best.later.get(i);
    }

    /** The best way for buses from one on, if it goes later by d; null: there is none. */
    private Held onward(List<Integer> goes, int h, int bus, int d, int first, Held[][] known) {
        if (known[bus][d] != null) return known[bus][d];
        int now = goes.get(bus) + d;
        if (now > 59) return null;
        Held best = null;
        if (bus == goes.size() - 1) best = new Held(waitsBetween(now, first + 60), List.of(d));
        for (int e = 0; bus < goes.size() - 1 && e <= h; e++) {
            int then = goes.get(bus + 1) + e;
            Held rest = then > now ? onward(goes, h, bus + 1, e, first, known) : null;
            if (rest == null) continue;
            List<Integer> later = new ArrayList<>(List.of(d));
            later.addAll(rest.later);
            Held held = new Held(waitsBetween(now, then) + rest.together, later);
            if (best == null || isBetter(held, best)) best = held;
        }
        known[bus][d] = best;
        return best;
    }

    private static boolean isBetter(Held a, Held b) {
        if (a.together != b.together) return a.together < b.together;
        for (int i = 0; i < a.later.size(); i++) {
            if (!a.later.get(i).equals(b.later.get(i))) return a.later.get(i) < b.later.get(i);
        }
        return false;
    }

    private static int waitsBetween(int bus, int next) {
        int waits = 0;
        for (int m = bus + 1; m <= next; m++) waits += next - m;
        return waits;
    }

    // ---- families

    private boolean badTime(int time) {
        return !in(time, 0, 999) || time < now;
    }

    int asked(int n, int time) {
        if (!in(n, 1, 8) || badTime(time)) return BAD;
        if (answers.size() == 40) return FULL;
        answers.add(new Answer(n, time, new int[] {Integer.MAX_VALUE}));
        now = time;
        return answers.size() - 1;
    }

    int read(int s, int time) {
        if (!in(s, 0, 3) || badTime(time)) return BAD;
        if (sheets[s] == null) return finding(NULL);
        int took = 0;
        for (int item : sheets[s]) {
            if (asked(item, time) < 0) break;
            took++;
        }
        return took;
    }

    int takeBack(int answer, int time) {
        if (!in(answer, 0, answers.size() - 1) || badTime(time)) return BAD;
        if (answers.get(answer).back[0] <= 999) return NOT;
        answers.get(answer).back[0] = time;
        now = time;
        return 1;
    }

    int asOf(int time) {
        if (!in(time, 0, 999)) return BAD;
        int was = asOf;
        asOf = time;
        return was;
    }

    private List<Integer> counting() {
        List<Integer> counting = new ArrayList<>();
        for (Answer a : answers) {
            if (a.told <= asOf && !(a.back[0] <= asOf)) counting.add(a.n);
        }
        return counting;
    }

    int said(int n) {
        if (!in(n, 1, 8)) return BAD;
        return (int) counting().stream().filter(said -> said == n).count();
    }

    private Part weight(int n, int of) {
        return of == 0 ? ONE : Part.of(1, n);
    }

    long share(int n, int of, int what) {
        if (!in(n, 1, 8) || !in(of, 0, 1) || !in(what, 0, 1)) return refused(BAD);
        if (counting().isEmpty()) return refused(NOT);
        Part those = ZERO;
        Part all = ZERO;
        for (int said : counting()) {
            all = all.plus(weight(said, of));
            if (said == n) those = those.plus(weight(said, of));
        }
        return those.by(all).told(what);
    }

    long size(int of, int what) {
        if (!in(of, 0, 1) || !in(what, 0, 1)) return refused(BAD);
        if (counting().isEmpty()) return refused(NOT);
        Part sum = ZERO;
        Part all = ZERO;
        for (int said : counting()) {
            all = all.plus(weight(said, of));
            sum = sum.plus(weight(said, of).times(Part.of(said, 1)));
        }
        return sum.by(all).told(what);
    }

    int families(int town, int n, int v) {
        if (!in(town, 0, 3) || !in(n, 1, 8) || !in(v, 0, 9)) return BAD;
        int were = families[town][n];
        families[town][n] = v;
        return were;
    }

    private int childrenOf(int town) {
        int children = 0;
        for (int n = 1; n <= 8; n++) children += n * families[town][n];
        return children;
    }

    /** One child is asked after the other: as it was said, times all the orders in which that could be. */
    private Part plainChance(int town) {
        int[] left = new int[9];
        for (int n = 1; n <= 8; n++) left[n] = n * families[town][n];
        int[] seen = new int[9];
        int all = childrenOf(town);
        int asked = 0;
        Part chance = ONE;
        for (int n : counting()) {
            asked++;
            seen[n]++;
            chance = chance.times(Part.of(Math.max(left[n], 0), all)).times(Part.of(asked, seen[n]));
            left[n]--;
            all--;
        }
        return chance;
    }

    long chance(int town, int what) {
        if (!in(town, 0, 3) || !in(what, 0, 1)) return refused(BAD);
        if (counting().size() > 8) return refused(FULL);
        if (childrenOf(town) < counting().size()) return refused(NOT);
        return plainChance(town).told(what);
    }

    int likeliest() {
        if (counting().size() > 8) return FULL;
        int likeliest = NONE;
        Part most = ZERO;
        for (int town = 0; town <= 3; town++) {
            if (childrenOf(town) < counting().size() || plainChance(town).compareWith(most) <= 0) continue;
            likeliest = town;
            most = plainChance(town);
        }
        return likeliest;
    }

    // ---- wards

    int stay(int from, int to) {
        if (!in(from, 0, 99) || !in(to, 0, 99) || to < from || to > from + 19) return BAD;
        if (stays.size() == 24) return FULL;
        stays.add(new int[] {from, to});
        return stays.size() - 1;
    }

    int leaves(int stay, int to) {
        if (!in(stay, 0, stays.size() - 1) || !in(to, 0, 99)) return BAD;
        int[] s = stays.get(stay);
        if (to < s[0] || to > s[0] + 19) return BAD;
        int was = s[1];
        s[1] = to;
        return was;
    }

    private static int length(int[] stay) {
        return stay[1] - stay[0] + 1;
    }

    private List<int[]> comers(int from, int to) {
        List<int[]> comers = new ArrayList<>();
        for (int[] s : stays) {
            if (in(s[0], from, to)) comers.add(s);
        }
        return comers;
    }

    /** A row for each day and each who lies there on it. */
    private List<int[]> lying(int from, int to) {
        List<int[]> lying = new ArrayList<>();
        for (int day = from; day <= to; day++) {
            for (int[] s : stays) {
                if (in(day, s[0], s[1])) lying.add(s);
            }
        }
        return lying;
    }

    private List<int[]> there(int from, int to) {
        List<int[]> there = new ArrayList<>();
        for (int[] s : stays) {
            for (int day = from; day <= to; day++) {
                if (!in(day, s[0], s[1])) continue;
                there.add(s);
                break;
            }
        }
        return there;
    }

    private static Part meanLength(List<int[]> of) {
        int sum = 0;
        for (int[] s : of) sum += length(s);
        return Part.of(sum, of.size());
    }

    int ward(int from, int to, int what) {
        if (!in(from, 0, 99) || !in(to, 0, 99) || to < from || !in(what, 0, 3)) return BAD;
        if (what == 0) return comers(from, to).size();
        if (what == 1) return there(from, to).size();
        if (what == 2) return lying(from, to).size();
        if (comers(from, to).isEmpty()) return NOT;
        Part rate = Part.of(comers(from, to).size(), to - from + 1);
        Part fill = Part.of(lying(from, to).size(), to - from + 1);
        return rate.times(meanLength(comers(from, to))).equals(fill) ? 1 : 0;
    }

    long means(int from, int to, int which, int what) {
        if (!in(from, 0, 99) || !in(to, 0, 99) || to < from || !in(which, 0, 5) || !in(what, 0, 1)) return refused(BAD);
        if (which == 4) return Part.of(comers(from, to).size(), to - from + 1).told(what);
        if (which == 5) return Part.of(lying(from, to).size(), to - from + 1).told(what);
        List<int[]> of = which == 0 ? comers(from, to) : which == 1 ? there(from, to) : lying(from, to);
        if (of.isEmpty()) return refused(NOT);
        if (which < 3) return meanLength(of).told(what);
        Part sum = ZERO;
        for (int[] s : of) sum = sum.plus(Part.of(1, length(s)));
        return Part.of(of.size(), 1).by(sum).told(what);
    }

    int fullest(int what) {
        if (!in(what, 0, 2)) return BAD;
        if (what == 2) return apart();
        int fullest = 0;
        for (int day = 1; day <= 99; day++) {
            if (lying(day, day).size() > lying(fullest, fullest).size()) fullest = day;
        }
        return what == 0 ? fullest : lying(fullest, fullest).size();
    }

    /** The most up to each day, by whether one ends on it. */
    private int apart() {
        int[] most = new int[101];
        for (int day = 0; day <= 99; day++) {
            most[day + 1] = most[day];
            for (int[] s : stays) {
                if (s[1] == day) most[day + 1] = Math.max(most[day + 1], most[s[0]] + 1);
            }
        }
        return most[100];
    }

    // ---- friends

    int friends(int a, int b, int v) {
        if (!in(a, 0, 7) || !in(b, 0, 7) || a == b || !in(v, 0, 1)) return BAD;
        int were = friends[a][b] ? 1 : 0;
        friends[a][b] = v == 1;
        friends[b][a] = v == 1;
        return were;
    }

    private List<Integer> friendsOf(int person) {
        List<Integer> hers = new ArrayList<>();
        for (int p = 0; p < 8; p++) {
            if (friends[person][p]) hers.add(p);
        }
        return hers;
    }

    private Part plainPicked(int person) {
        Part chance = ZERO;
        for (int p = 0; p < 8; p++) {
            List<Integer> hers = friendsOf(p).isEmpty() ? List.of(p) : friendsOf(p);
            if (hers.contains(person)) chance = chance.plus(Part.of(1, 8L * hers.size()));
        }
        return chance;
    }

    /** How many friends each one has who is told as a friend by each. */
    private List<Integer> friendsOfTold() {
        List<Integer> told = new ArrayList<>();
        for (int p = 0; p < 8; p++) {
            for (int friend : friendsOf(p)) told.add(friendsOf(friend).size());
        }
        return told;
    }

    private static Part meanOf(List<Integer> numbers) {
        return Part.of(numbers.stream().mapToInt(Integer::intValue).sum(), numbers.size());
    }

    long mean(int which, int what) {
        if (!in(which, 0, 2) || !in(what, 0, 1)) return refused(BAD);
        if (which == 1) return friendsOfTold().isEmpty() ? refused(NOT) : meanOf(friendsOfTold()).told(what);
        Part mean = ZERO;
        for (int p = 0; p < 8; p++) {
            Part chance = which == 0 ? Part.of(1, 8) : plainPicked(p);
            mean = mean.plus(chance.times(Part.of(friendsOf(p).size(), 1)));
        }
        return mean.told(what);
    }

    int fewer() {
        int bits = 0;
        for (int p = 0; p < 8; p++) {
            List<Integer> theirs = new ArrayList<>();
            for (int friend : friendsOf(p)) theirs.add(friendsOf(friend).size());
            if (!theirs.isEmpty() && Part.of(theirs.size(), 1).compareWith(meanOf(theirs)) < 0) bits += 1 << p;
        }
        return bits;
    }

    long picked(int person, int what) {
        if (!in(person, 0, 7) || !in(what, 0, 1)) return refused(BAD);
        return plainPicked(person).told(what);
    }

    private int touched(int group) {
        int touched = 0;
        for (int a = 0; a < 8; a++) {
            for (int b = a + 1; b < 8; b++) {
                if (friends[a][b] && ((group & 1 << a) != 0 || (group & 1 << b) != 0)) touched++;
            }
        }
        return touched;
    }

    int best(int k, int what) {
        if (!in(k, 1, 8) || !in(what, 0, 1)) return BAD;
        int best = -1;
        for (int group = 255; group >= 0; group--) {
            if (Integer.bitCount(group) == k && (best == -1 || touched(group) >= touched(best))) best = group;
        }
        return what == 0 ? best : touched(best);
    }

    // ---- sticks

    int piece(int length) {
        if (!in(length, 1, 20)) return BAD;
        if (pieces.size() == 8) return FULL;
        pieces.add(length);
        return pieces.size();
    }

    int snap() {
        int had = pieces.size();
        pieces.clear();
        return had;
    }

    private int lengthInAll() {
        return pieces.stream().mapToInt(Integer::intValue).sum();
    }

    /** For each set of pieces: in how many ways k points hit just these. */
    private long[] hits(int k) {
        long[] ways = new long[1 << pieces.size()];
        ways[0] = 1;
        for (int point = 0; point < k; point++) {
            long[] then = new long[ways.length];
            for (int set = 0; set < ways.length; set++) {
                for (int p = 0; p < pieces.size(); p++) then[set | 1 << p] += ways[set] * pieces.get(p);
            }
            ways = then;
        }
        return ways;
    }

    long hit(int piece, int k, int what) {
        if (!in(piece, 0, pieces.size() - 1) || !in(k, 1, 5) || !in(what, 0, 1)) return refused(BAD);
        long[] ways = hits(k);
        long those = 0;
        for (int set = 0; set < ways.length; set++) {
            if ((set & 1 << piece) != 0) those += ways[set];
        }
        return Part.of(those, Arrays.stream(ways).sum()).told(what);
    }

    long stick(int which, int k, int what) {
        if (!in(which, 0, 2) || !in(k, 1, 5) || which == 0 && k != 1 || !in(what, 0, 1)) return refused(BAD);
        if (pieces.isEmpty()) return refused(NOT);
        long[] ways = hits(k);
        long sum = 0;
        for (int set = 0; set < ways.length; set++) {
            if (which == 0) sum += ways[set] * (set == 0 ? 0 : pieces.get(Integer.numberOfTrailingZeros(set)));
            if (which == 1) sum += ways[set] * Integer.bitCount(set);
            if (which == 2 && set == ways.length - 1) sum += ways[set];
        }
        return Part.of(sum, Arrays.stream(ways).sum()).told(what);
    }

    // ---- sheets

    int sheet(int s, int form, int n) {
        if (!in(s, 0, 3) || !in(form, 0, 2) || n > 60) return BAD;
        if (n < 0) return finding(SIZE);
        sheets[s] = new int[n];
        forms[s] = form;
        return n;
    }

    int lose(int s) {
        if (!in(s, 0, 3)) return BAD;
        if (sheets[s] == null) return finding(NULL);
        int had = sheets[s].length;
        sheets[s] = null;
        return had;
    }

    private static int fitted(int form, int v) {
        int bits = form == 0 ? 24 : form == 1 ? 16 : 0;
        return v << bits >> bits;
    }

    int put(int s, int form, int i, int v) {
        if (!in(s, 0, 3) || !in(form, 0, 2)) return BAD;
        if (sheets[s] == null) return finding(NULL);
        if (forms[s] != form) return finding(CAST);
        if (!in(i, 0, sheets[s].length - 1)) return finding(INDEX);
        sheets[s][i] = fitted(form, v);
        return 1;
    }

    int get(int s, int form, int i) {
        if (!in(s, 0, 3) || !in(form, 0, 2)) return Integer.MIN_VALUE;
        if (sheets[s] == null) latest = NULL;
        else if (forms[s] != form) latest = CAST;
        else if (!in(i, 0, sheets[s].length - 1)) latest = INDEX;
        else return sheets[s][i];
        return Integer.MIN_VALUE;
    }

    int copy(int s, int i, int t, int j, int n) {
        if (!in(s, 0, 3) || !in(t, 0, 3)) return BAD;
        if (sheets[s] == null || sheets[t] == null) return finding(NULL);
        if (forms[s] != forms[t]) return finding(STORE);
        if (i < 0 || j < 0 || n < 0 || (long) i + n > sheets[s].length || (long) j + n > sheets[t].length) return finding(INDEX);
        int[] were = sheets[s].clone();
        for (int item = 0; item < n; item++) sheets[t][j + item] = were[i + item];
        return 1;
    }

    int write(int who, int s) {
        if (!in(who, 0, 2) || !in(s, 0, 3)) return BAD;
        if (sheets[s] == null) return finding(NULL);
        if (minutesOf(who).isEmpty()) return NOT;
        for (int m = 0; m < sheets[s].length; m++) sheets[s][m] = fitted(forms[s], plainWait(who, m));
        return sheets[s].length;
    }

    int count(int what) {
        if (!in(what, 0, 8)) return BAD;
        int friendships = touched(255);
        int[] counts = {minutesOf(0).size(), minutesOf(1).size(), text.length(), answers.size(), counting().size(), stays.size(),
            friendships, lengthInAll(), latest};
        return counts[what];
    }

    long digest() {
        List<Long> told = new ArrayList<>();
        for (int what = 0; what <= 7; what++) told.add((long) count(what));
        told.add((long) fault());
        for (int i = 0; i < 18; i++) told.add(gaps(i / 6, i / 2 % 3, i % 2));
        told.add((long) held(0, 2, NONE));
        told.add((long) held(1, 2, NONE));
        for (int i = 0; i < 4; i++) told.add(size(i / 2, i % 2));
        told.add((long) likeliest());
        for (int what = 0; what <= 3; what++) told.add((long) ward(10, 30, what));
        for (int i = 0; i < 12; i++) told.add(means(10, 30, i / 2, i % 2));
        for (int what = 0; what <= 2; what++) told.add((long) fullest(what));
        for (int i = 0; i < 6; i++) told.add(mean(i / 2, i % 2));
        told.add((long) fewer());
        told.add((long) best(2, 0));
        for (int i = 0; i < 6; i++) told.add(stick(i / 2, 1, i % 2));
        long h = 17;
        for (long next : told) h = 31 * h + next;
        return h;
    }
}
