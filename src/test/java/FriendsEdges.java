/** The boundary cases of part 4 of the terms and of promises 25 to 29. */
final class FriendsEdges {
    private static final int BAD = LongestMet.BAD;
    private static final long LONG_BAD = Refusal.LONG_BAD, LONG_NOT = Refusal.LONG_NOT;

    private FriendsEdges() {
    }

    static void run() {
        persons();
        means();
        fewer();
        picked();
        best();
        promise25();
        promise26();
        promise27();
        promise28();
        promise29();
    }

    /** FRIENDS, two by two. */
    private static LongestMet with(int... persons) {
        LongestMet x = new LongestMet();
        for (int i = 0; i < persons.length; i += 2) x.friends(persons[i], persons[i + 1], 1);
        return x;
    }

    /** Each is a friend of each other. */
    private static LongestMet all() {
        return State.FILLED.make();
    }

    /** Person p is a friend of each other, and nobody else is. */
    private static LongestMet star(int p) {
        LongestMet x = new LongestMet();
        for (int b = 0; b <= 7; b++) x.friends(p, b, 1);
        return x;
    }

    private static void meanIs(LongestMet x, int which, long above, long below) {
        Due.is("mean(" + which + ", 0)", x.mean(which, 0), above);
        Due.is("mean(" + which + ", 1)", x.mean(which, 1), below);
    }

    private static void pickedIs(LongestMet x, int person, long above, long below) {
        Due.is("picked(" + person + ", 0)", x.picked(person, 0), above);
        Due.is("picked(" + person + ", 1)", x.picked(person, 1), below);
    }

    private static void bestIs(LongestMet x, int k, int group, int friendships) {
        Due.is("best(" + k + ", 0)", x.best(k, 0), group);
        Due.is("best(" + k + ", 1)", x.best(k, 1), friendships);
    }

    private static void persons() {
        Due.by("Terms 4", "FRIENDS: persons 0 to 7; two of them are FRIENDS, or not (not at first).");
        for (int a = 0; a <= 7; a++) {
            for (int b = 0; b <= 7; b++) {
                LongestMet x = new LongestMet();
                Due.is("friends(" + a + ", " + b + ", 0), not at first", x.friends(a, b, 0), a == b ? BAD : 0);
                Due.is("friends(" + a + ", " + b + ", 1)", x.friends(a, b, 1), a == b ? BAD : 0);
                Due.is("friends(" + b + ", " + a + ", 1): both are", x.friends(b, a, 1), a == b ? BAD : 1);
                Due.is("count(6)", x.count(6), a == b ? 0 : 1);
                Due.is("friends(" + b + ", " + a + ", 0)", x.friends(b, a, 0), a == b ? BAD : 1);
                Due.is("friends(" + a + ", " + b + ", 0)", x.friends(a, b, 0), a == b ? BAD : 0);
                Due.is("count(6)", x.count(6), 0);
            }
        }
        Refusal.outside("friends(#, 0, 1)", 0, 7, (x, a) -> x.friends(a, 0, 1), BAD);
        Refusal.outside("friends(0, #, 1)", 0, 7, (x, b) -> x.friends(0, b, 1), BAD);
    }

    private static void means() {
        Due.by("Terms 4", "MEAN of how many FRIENDS one has;");
        meanIs(new LongestMet(), 0, 0, 1);
        meanIs(with(6, 7), 0, 1, 4);
        meanIs(star(7), 0, 7, 4);
        meanIs(all(), 0, 7, 1);
        Due.by("Terms 4", "MEAN of how many FRIENDS of persons have (each FRIENDSHIP told from both);");
        meanIs(new LongestMet(), 1, LONG_NOT, LONG_NOT);
        meanIs(with(6, 7), 1, 1, 1);
        // 7 times 7 and 7 times 1, of 14
        meanIs(star(7), 1, 4, 1);
        meanIs(all(), 1, 7, 1);
        // 1 has 2, 2 times; 0 and 2 have 1 each
        meanIs(with(0, 1, 1, 2), 1, 3, 2);
    }

    private static void fewer() {
        Due.by("Terms 4", "FEWER: who has fewer than hers have on the mean (bits; none who has no FRIENDS).");
        Due.is("fewer(), none has FRIENDS", new LongestMet().fewer(), 0);
        Due.is("fewer(), as many each", with(0, 1).fewer(), 0);
        Due.is("fewer(), all have 7", all().fewer(), 0);
        for (int p = 0; p <= 7; p++) Due.is("fewer(), star " + p, star(p).fewer(), 255 ^ 1 << p);
        Due.is("fewer(), a path of three, five have none", with(0, 7, 7, 3).fewer(), 1 | 8);
        // 0 has 2, hers have 1 and 3: as many on the mean; 1 has 3, hers 2, 1, 1
        LongestMet even = with(0, 7, 0, 1, 1, 2, 1, 3);
        Due.is("fewer(), as many on the mean", even.fewer(), 128 | 4 | 8);
        // 0 has 2, hers have 1 and 4
        even.friends(1, 4, 1);
        Due.is("fewer(), a half more on the mean", even.fewer(), 128 | 1 | 4 | 8 | 16);
    }

    private static void picked() {
        Due.by("Terms 4", "PICKED: a person is picked, each alike; then one of hers, each alike (herself, if she has none): the chance of each.");
        for (int p = 0; p <= 7; p++) {
            pickedIs(new LongestMet(), p, 1, 8);
            pickedIs(all(), p, 1, 8);
            pickedIs(star(7), p, p == 7 ? 7 : 1, p == 7 ? 8 : 56);
            pickedIs(with(0, 1), p, 1, 8);
        }
        LongestMet path = with(0, 1, 0, 2);
        pickedIs(path, 0, 1, 4);
        pickedIs(path, 1, 1, 16);
        pickedIs(path, 7, 1, 8);
        // 0 is picked by 1 (one of 2), 2 (one of 3)
        LongestMet more = with(0, 1, 0, 2, 1, 2, 2, 3);
        pickedIs(more, 0, 5, 48);
        pickedIs(more, 3, 1, 24);
        Due.by("Terms 4", "ASKED ONES: how many FRIENDS the one who is PICKED has on the mean.");
        meanIs(new LongestMet(), 2, 0, 1);
        meanIs(with(6, 7), 2, 1, 4);
        meanIs(all(), 2, 7, 1);
        // 7 by 8 of 7, 1 by 8 of 1
        meanIs(star(7), 2, 25, 4);
    }

    private static void best() {
        Due.by("Terms 4", "BEST k (1 to 8): those k persons with the most FRIENDSHIPS of which at least one is among them,");
        bestIs(star(7), 1, 128, 7);
        bestIs(with(6, 7), 1, 64, 1);
        // 0 and 1 have three each, but one in common; 0 and 6 have six
        LongestMet x = with(0, 1, 0, 2, 0, 3, 1, 4, 1, 5, 6, 4, 6, 5, 6, 7);
        bestIs(x, 2, 65, 6);
        bestIs(x, 8, 255, 8);
        for (int k = 1; k <= 8; k++) bestIs(all(), k, (1 << k) - 1, 28 - (8 - k) * (7 - k) / 2);
        Refusal.bounds("best(#, 0)", 1, 8, (y, k) -> y.best(k, 0), BAD);
        Due.by("Terms 4", "of like ones the least as bits;");
        for (int k = 1; k <= 8; k++) bestIs(new LongestMet(), k, (1 << k) - 1, 0);
        bestIs(with(6, 7), 2, 65, 1);
        bestIs(with(6, 7, 4, 5), 1, 16, 1);
        bestIs(with(6, 7, 4, 5), 2, 16 | 64, 2);
        bestIs(star(7), 8, 255, 7);
    }

    private static void promise25() {
        Due.by("Promise 25", "Two persons are FRIENDS (v = 1), or not (0): what they were.");
        LongestMet x = new LongestMet();
        Due.is("friends(0, 7, 1)", x.friends(0, 7, 1), 0);
        Due.is("friends(0, 7, 1) again", x.friends(0, 7, 1), 1);
        Due.is("count(6): one FRIENDSHIP", x.count(6), 1);
        Due.is("friends(7, 0, 0)", x.friends(7, 0, 0), 1);
        Due.is("friends(7, 0, 0) again", x.friends(7, 0, 0), 0);
        Due.is("count(6): none", x.count(6), 0);
        Due.by("Promise 25", "BAD: also one with herself.");
        Refusal.bounds("friends(#, 3, 1)", 0, 7, (y, a) -> y.friends(a, 3, 1), BAD);
        Refusal.bounds("friends(3, #, 0)", 0, 7, (y, b) -> y.friends(3, b, 0), BAD);
        Refusal.bounds("friends(0, 7, #)", 0, 1, (y, v) -> y.friends(0, 7, v), BAD);
        for (int p = 0; p <= 7; p++) {
            int person = p;
            Refusal.inAll("friends(" + p + ", " + p + ", 1)", y -> y.friends(person, person, 1), BAD);
            Refusal.inAll("friends(" + p + ", " + p + ", 0)", y -> y.friends(person, person, 0), BAD);
        }
    }

    private static void promise26() {
        Due.by("Promise 26", "MEAN of FRIENDS one has (which = 0), of how many FRIENDS have (1; NOT: there are none), ASKED ONES (2): above, below.");
        LongestMet x = with(0, 1, 1, 2);
        meanIs(x, 0, 1, 2);
        meanIs(x, 1, 3, 2);
        // 1 is picked in 2 of 8, 0 and 2 by a half of one each
        meanIs(x, 2, 5, 8);
        for (int n = 0; n <= 1; n++) {
            int what = n;
            Refusal.in(State.NEW, "mean(1, " + what + "), there are none", y -> y.mean(1, what), LONG_NOT);
        }
        LongestMet back = with(0, 1);
        back.friends(1, 0, 0);
        meanIs(back, 0, 0, 1);
        meanIs(back, 1, LONG_NOT, LONG_NOT);
        meanIs(back, 2, 0, 1);
        Due.by("Promise 26", "BAD. (A refusal -x is the least long and x more.)");
        Refusal.bounds("mean(#, 0)", 0, 2, (y, which) -> y.mean(which, 0), LONG_BAD);
        for (int n = 0; n <= 2; n++) {
            int which = n;
            Refusal.bounds("mean(" + which + ", #)", 0, 1, (y, what) -> y.mean(which, what), LONG_BAD);
            Refusal.asksOnly("mean(" + which + ", 0)", y -> y.mean(which, 0));
        }
    }

    private static void promise27() {
        Due.by("Promise 27", "FEWER, as bits.");
        Due.is("fewer(), star 0", star(0).fewer(), 254);
        Due.is("fewer(), star 7", star(7).fewer(), 127);
        Refusal.asksOnly("fewer()", x -> x.fewer());
    }

    private static void promise28() {
        Due.by("Promise 28", "PICKED: above, below.");
        pickedIs(star(0), 0, 7, 8);
        pickedIs(star(0), 7, 1, 56);
        Due.by("Promise 28", "BAD. (A refusal -x is the least long and x more.)");
        Refusal.bounds("picked(#, 0)", 0, 7, (x, person) -> x.picked(person, 0), LONG_BAD);
        Refusal.bounds("picked(7, #)", 0, 1, (x, what) -> x.picked(7, what), LONG_BAD);
        Refusal.asksOnly("picked(0, 1)", x -> x.picked(0, 1));
    }

    private static void promise29() {
        Due.by("Promise 29", "BEST k, as bits (what = 0), how many FRIENDSHIPS (1). BAD.");
        bestIs(star(7), 1, 128, 7);
        bestIs(star(7), 2, 129, 7);
        Refusal.bounds("best(#, 1)", 1, 8, (x, k) -> x.best(k, 1), BAD);
        Refusal.bounds("best(8, #)", 0, 1, (x, what) -> x.best(8, what), BAD);
        Refusal.asksOnly("best(3, 0)", x -> x.best(3, 0));
        Refusal.asksOnly("best(3, 1)", x -> x.best(3, 1));
    }
}
