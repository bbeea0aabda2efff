import java.util.Random;

/** Long runs of calls, always the same ones, against the document's plain words. */
public final class RunsTest {
    // nothing is promised behind the 512th call of an object, and one step makes up to 90 calls
    private static final int RUNS = 500, MOST_CALLS = 512, STEP_CALLS = 90;
    private static final int[] EDGES = {-1, -2, Integer.MIN_VALUE, Integer.MAX_VALUE, 60, 61, 100, 256, 1000, 9, 8, 24, 40};

    private final Random random;
    private final LongestMet x = new LongestMet();
    private final PlainModel m = new PlainModel();
    private final int run;
    private int time = 0;
    private int calls = 0;

    private RunsTest(int run) {
        this.run = run;
        random = new Random(run);
    }

    public static void main(String[] args) {
        for (int run = 0; run < RUNS; run++) new RunsTest(run).go();
        Due.end();
    }

    private void go() {
        // each run dwells on some part of the document
        int dwells = run % 7;
        while (calls < MOST_CALLS - STEP_CALLS) {
            int part = random.nextInt(10) < 7 && dwells < 6 ? dwells : random.nextInt(6);
            if (part == 0) buses();
            else if (part == 1) families();
            else if (part == 2) wards();
            else if (part == 3) friends();
            else if (part == 4) sticks();
            else sheets();
            if (random.nextInt(20) == 0) check("digest()", x.digest(), m.digest());
        }
        check("digest() at the end", x.digest(), m.digest());
        Due.isTrue("run " + run + " keeps to 512 calls", calls <= MOST_CALLS);
    }

    private void check(String call, long got, long want) {
        calls++;
        Due.is("run " + run + ": " + call, got, want);
    }

    /** Mostly a number as told, now and then one that is not. */
    private int number(int least, int most) {
        int chance = random.nextInt(40);
        if (chance == 0) return EDGES[random.nextInt(EDGES.length)];
        if (chance == 1) return least - 1;
        if (chance == 2) return most + 1;
        if (chance == 3) return least;
        if (chance == 4) return most;
        return least + random.nextInt(most - least + 1);
    }

    private void buses() {
        int a = number(0, 2), b;
        switch (random.nextInt(9)) {
            case 0 -> type(number(0, 255));
            case 1 -> typeSome();
            case 2 -> check("wipe()", x.wipe(), m.wipe());
            case 3 -> check("fault()", x.fault(), m.fault());
            case 4 -> {
                typeLine();
                a = number(0, 1);
                check("line(" + a + ")", x.line(a), m.line(a));
                check("wipe()", x.wipe(), m.wipe());
            }
            case 5 -> {
                b = number(0, 59);
                check("waits(" + a + ", " + b + ")", x.waits(a, b), m.waits(a, b));
            }
            case 6 -> {
                b = number(1, 60);
                check("met(" + a + ", " + b + ")", x.met(a, b), m.met(a, b));
            }
            case 7 -> {
                b = number(0, 2);
                int c = number(0, 1);
                check("gaps(" + a + ", " + b + ", " + c + ")", x.gaps(a, b, c), m.gaps(a, b, c));
            }
            default -> heldOnes();
        }
    }

    private void heldOnes() {
        int line = number(0, 1), h = number(0, 5);
        for (int i = -1; i <= 12; i++) check("held(" + line + ", " + h + ", " + i + ")", x.held(line, h, i), m.held(line, h, i));
        int i = number(-1, 59);
        check("held(" + line + ", " + h + ", " + i + ")", x.held(line, h, i), m.held(line, h, i));
    }

    private void type(int b) {
        check("type(" + b + ")", x.type(b), m.type(b));
    }

    private void typeSome() {
        int bytes = 1 + random.nextInt(8);
        for (int i = 0; i < bytes; i++) type("0123456789,+5,+,19;".charAt(random.nextInt(19)));
        check("fault()", x.fault(), m.fault());
    }

    private void typeLine() {
        int parts = 1 + random.nextInt(random.nextInt(4) == 0 ? 13 : 5);
        for (int i = 0; i < parts; i++) {
            if (i > 0) type(',');
            // close ones, so that one hinders the other
            typeNumber(random.nextInt(random.nextBoolean() ? 60 : 20));
            if (random.nextInt(5) == 0) {
                type('+');
                typeNumber(random.nextInt(12) == 0 ? random.nextInt(62) : 4 + random.nextInt(40));
            }
        }
    }

    private void typeNumber(int number) {
        for (char c : String.valueOf(number).toCharArray()) type(c);
    }

    private int nextTime() {
        if (random.nextInt(12) == 0) return number(0, 999);
        time = Math.min(999, time + random.nextInt(3) * random.nextInt(12));
        return time;
    }

    private void families() {
        int a, b, c;
        switch (random.nextInt(9)) {
            case 0 -> {
                a = number(1, random.nextInt(3) == 0 ? 8 : 3);
                b = nextTime();
                check("asked(" + a + ", " + b + ")", x.asked(a, b), m.asked(a, b));
            }
            case 1 -> {
                a = number(0, Math.max(0, m.count(3) - 1));
                b = nextTime();
                check("takeBack(" + a + ", " + b + ")", x.takeBack(a, b), m.takeBack(a, b));
            }
            case 2 -> {
                a = random.nextInt(3) == 0 ? 999 : number(0, Math.min(999, time + 5));
                check("asOf(" + a + ")", x.asOf(a), m.asOf(a));
            }
            case 3 -> {
                a = number(1, 8);
                check("said(" + a + ")", x.said(a), m.said(a));
                b = number(0, 1);
                c = number(0, 1);
                check("share(" + a + ", " + b + ", " + c + ")", x.share(a, b, c), m.share(a, b, c));
            }
            case 4 -> {
                a = number(0, 1);
                b = number(0, 1);
                check("size(" + a + ", " + b + ")", x.size(a, b), m.size(a, b));
            }
            case 5 -> {
                a = number(0, 3);
                b = number(1, 8);
                c = number(0, 9);
                check("families(" + a + ", " + b + ", " + c + ")", x.families(a, b, c), m.families(a, b, c));
            }
            case 6 -> {
                a = number(0, 3);
                b = number(0, 1);
                check("chance(" + a + ", " + b + ")", x.chance(a, b), m.chance(a, b));
            }
            case 7 -> check("likeliest()", x.likeliest(), m.likeliest());
            default -> {
                a = number(0, 3);
                b = nextTime();
                check("read(" + a + ", " + b + ")", x.read(a, b), m.read(a, b));
            }
        }
    }

    private void wards() {
        int a = number(0, 99), b, c, d;
        switch (random.nextInt(5)) {
            case 0 -> {
                b = random.nextInt(10) == 0 ? number(0, 99) : a + random.nextInt(21);
                check("stay(" + a + ", " + b + ")", x.stay(a, b), m.stay(a, b));
            }
            case 1 -> {
                a = number(0, Math.max(0, m.count(5) - 1));
                b = number(0, 99);
                check("leaves(" + a + ", " + b + ")", x.leaves(a, b), m.leaves(a, b));
            }
            case 2 -> {
                b = random.nextInt(10) == 0 ? number(0, 99) : number(Math.min(99, Math.max(a, 0)), 99);
                c = number(0, 3);
                check("ward(" + a + ", " + b + ", " + c + ")", x.ward(a, b, c), m.ward(a, b, c));
            }
            case 3 -> {
                b = random.nextInt(10) == 0 ? number(0, 99) : number(Math.min(99, Math.max(a, 0)), 99);
                c = number(0, 5);
                d = number(0, 1);
                check("means(" + a + ", " + b + ", " + c + ", " + d + ")", x.means(a, b, c, d), m.means(a, b, c, d));
            }
            default -> {
                a = number(0, 2);
                check("fullest(" + a + ")", x.fullest(a), m.fullest(a));
            }
        }
    }

    private void friends() {
        int a = number(0, 7), b, c;
        switch (random.nextInt(6)) {
            case 0, 1 -> {
                b = number(0, 7);
                c = number(0, 1);
                check("friends(" + a + ", " + b + ", " + c + ")", x.friends(a, b, c), m.friends(a, b, c));
            }
            case 2 -> {
                b = number(0, 2);
                c = number(0, 1);
                check("mean(" + b + ", " + c + ")", x.mean(b, c), m.mean(b, c));
            }
            case 3 -> check("fewer()", x.fewer(), m.fewer());
            case 4 -> {
                b = number(0, 1);
                check("picked(" + a + ", " + b + ")", x.picked(a, b), m.picked(a, b));
            }
            default -> {
                a = number(1, 8);
                b = number(0, 1);
                check("best(" + a + ", " + b + ")", x.best(a, b), m.best(a, b));
            }
        }
    }

    private void sticks() {
        int a, b = number(1, 5), c = number(0, 1);
        switch (random.nextInt(random.nextInt(6) == 0 ? 4 : 3)) {
            case 0 -> {
                a = number(1, 20);
                check("piece(" + a + ")", x.piece(a), m.piece(a));
            }
            case 1 -> {
                a = number(0, 7);
                check("hit(" + a + ", " + b + ", " + c + ")", x.hit(a, b, c), m.hit(a, b, c));
            }
            case 2 -> {
                a = number(0, 2);
                check("stick(" + a + ", " + b + ", " + c + ")", x.stick(a, b, c), m.stick(a, b, c));
                check("stick(" + a + ", 1, " + c + ")", x.stick(a, 1, c), m.stick(a, 1, c));
            }
            default -> check("snap()", x.snap(), m.snap());
        }
    }

    private void sheets() {
        int s = number(0, 3), form = random.nextInt(3) == 0 ? number(0, 2) : s % 2 + 1, i = number(0, 7);
        int t, j, n;
        switch (random.nextInt(9)) {
            case 0 -> {
                n = random.nextInt(4) == 0 ? number(0, 60) : number(0, 12);
                check("sheet(" + s + ", " + form + ", " + n + ")", x.sheet(s, form, n), m.sheet(s, form, n));
            }
            case 1 -> {
                if (random.nextInt(3) == 0) check("lose(" + s + ")", x.lose(s), m.lose(s));
            }
            case 2, 3 -> {
                n = random.nextInt(3) == 0 ? random.nextInt() >> random.nextInt(31) : number(1, 8);
                check("put(" + s + ", " + form + ", " + i + ", " + n + ")", x.put(s, form, i, n), m.put(s, form, i, n));
            }
            case 4, 5 -> check("get(" + s + ", " + form + ", " + i + ")", x.get(s, form, i), m.get(s, form, i));
            case 6 -> {
                t = number(0, 3);
                j = number(0, 7);
                n = number(0, 6);
                check("copy(" + s + ", " + i + ", " + t + ", " + j + ", " + n + ")", x.copy(s, i, t, j, n), m.copy(s, i, t, j, n));
            }
            case 7 -> {
                t = number(0, 2);
                check("write(" + t + ", " + s + ")", x.write(t, s), m.write(t, s));
            }
            default -> {
                n = number(0, 8);
                check("count(" + n + ")", x.count(n), m.count(n));
            }
        }
    }
}
