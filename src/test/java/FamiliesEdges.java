/** The boundary cases of part 2 of the terms and of promises 10 to 19. */
final class FamiliesEdges {
    private static final int NONE = LongestMet.NONE, BAD = LongestMet.BAD, NOT = LongestMet.NOT, FULL = LongestMet.FULL;
    private static final long LONG_BAD = Refusal.LONG_BAD, LONG_NOT = Refusal.LONG_NOT, LONG_FULL = Refusal.LONG_FULL;

    private FamiliesEdges() {
    }

    static void run() {
        answers();
        times();
        asOf();
        shares();
        towns();
        chances();
        likeliest();
        likeliestOfMany();
        promise10();
        promise11();
        promise11Stops();
        promise11Refuses();
        promise12();
        promise13();
        promise14();
        promise15();
        promise16();
        promise17();
        promise18();
        promise19();
    }

    private static LongestMet with(int... sizes) {
        LongestMet x = new LongestMet();
        for (int n : sizes) x.asked(n, 0);
        return x;
    }

    /** An object with as many answers of 1. */
    private static LongestMet withMany(int answers) {
        LongestMet x = new LongestMet();
        for (int a = 0; a < answers; a++) x.asked(1, 0);
        return x;
    }

    private static void answers() {
        Due.by("Terms 2", "ANSWERS, 40 at most:");
        LongestMet x = new LongestMet();
        for (int a = 0; a <= 39; a++) Due.is("asked(1, 0), answer " + a, x.asked(1, 0), a);
        Due.is("asked(1, 0), the 41st", x.asked(1, 0), FULL);
        Due.is("count(3)", x.count(3), 40);
        x.takeBack(0, 0);
        Due.is("asked(1, 0): one taken back leaves no room", x.asked(1, 0), FULL);
        Due.by("Terms 2", "a child that was ASKED says how many children they are at home (1 to 8),");
        for (int n = 1; n <= 8; n++) {
            LongestMet y = with(n);
            Due.is("said(" + n + ")", y.said(n), 1);
        }
        Refusal.outside("asked(#, 999)", 1, 8, (y, n) -> y.asked(n, 999), BAD);
    }

    private static void times() {
        Due.by("Terms 2", "told at a TIME (0 to 999; not less than the one ahead, of taking back, too);");
        LongestMet x = new LongestMet();
        Due.is("asked(1, 0)", x.asked(1, 0), 0);
        Due.is("asked(1, 0): as early as the one ahead", x.asked(1, 0), 1);
        Due.is("asked(1, 10)", x.asked(1, 10), 2);
        Due.is("asked(1, 9): less than the one ahead", x.asked(1, 9), BAD);
        Due.is("asked(1, 10) again", x.asked(1, 10), 3);
        Due.is("takeBack(0, 9): less than the one ahead", x.takeBack(0, 9), BAD);
        Due.is("takeBack(0, 10)", x.takeBack(0, 10), 1);
        Due.is("takeBack(1, 20)", x.takeBack(1, 20), 1);
        Due.is("asked(1, 19): less than the one of taking back", x.asked(1, 19), BAD);
        Due.is("takeBack(2, 19): likewise", x.takeBack(2, 19), BAD);
        Due.is("asked(1, 20)", x.asked(1, 20), 4);
        Due.is("asked(1, 1000)", x.asked(1, 1000), BAD);
        Due.is("asked(1, 999)", x.asked(1, 999), 5);
        Due.is("asked(1, 998)", x.asked(1, 998), BAD);
        Due.is("asked(1, 999) again", x.asked(1, 999), 6);
        Due.is("takeBack(6, 999)", x.takeBack(6, 999), 1);
        Refusal.outside("asked(1, #)", 0, 999, (y, time) -> y.asked(1, time), BAD);
        Due.by("Terms 2", "each can be TAKEN BACK at a TIME.");
        LongestMet full = withMany(40);
        for (int a = 39; a >= 0; a--) Due.is("takeBack(" + a + ", 0)", full.takeBack(a, 0), 1);
        Due.is("count(4), all taken back", full.count(4), 0);
        Due.is("count(3), all taken back", full.count(3), 40);
    }

    private static void countsAt(LongestMet x, int time, int due) {
        x.asOf(time);
        Due.is("count(4) as of " + time, x.count(4), due);
        Due.is("said(5) as of " + time, x.said(5), due);
    }

    private static void asOf() {
        Due.by("Terms 2", "AS OF a TIME (999 at first) those COUNT that were told up to then, not taken back up to then.");
        Due.is("asOf(0), at first", new LongestMet().asOf(0), 999);
        LongestMet x = new LongestMet();
        x.asked(5, 10);
        x.takeBack(0, 20);
        countsAt(x, 0, 0);
        countsAt(x, 9, 0);
        countsAt(x, 10, 1);
        countsAt(x, 19, 1);
        countsAt(x, 20, 0);
        countsAt(x, 999, 0);
        LongestMet last = new LongestMet();
        last.asked(5, 0);
        last.asked(5, 999);
        countsAt(last, 0, 1);
        countsAt(last, 998, 1);
        countsAt(last, 999, 2);
        last.takeBack(0, 999);
        countsAt(last, 998, 1);
        countsAt(last, 999, 1);
        LongestMet atOnce = new LongestMet();
        atOnce.asked(5, 7);
        atOnce.takeBack(0, 7);
        countsAt(atOnce, 6, 0);
        countsAt(atOnce, 7, 0);
        countsAt(atOnce, 8, 0);
        Due.by("Terms 2", "ASKED n: how many that COUNT said n.");
        LongestMet some = State.SOME.make();
        Due.is("said(4)", some.said(4), 1);
        Due.is("said(2): one of two was taken back", some.said(2), 1);
        Due.is("said(7): told behind AS OF", some.said(7), 0);
        Due.is("said(1): nobody", some.said(1), 0);
        Due.is("said(1), 40 of them", withMany(40).said(1), 40);
    }

    private static void shareIs(LongestMet x, int n, int of, long above, long below) {
        Due.is("share(" + n + ", " + of + ", 0)", x.share(n, of, 0), above);
        Due.is("share(" + n + ", " + of + ", 1)", x.share(n, of, 1), below);
    }

    private static void sizeIs(LongestMet x, int of, long above, long below) {
        Due.is("size(" + of + ", 0)", x.size(of, 0), above);
        Due.is("size(" + of + ", 1)", x.size(of, 1), below);
    }

    private static void shares() {
        Due.by("Terms 2", "SHARE of n among children: that by all; among families: each answer n counted as one by n, that of n by all.");
        LongestMet ends = with(1, 8);
        shareIs(ends, 1, 0, 1, 2);
        shareIs(ends, 8, 0, 1, 2);
        shareIs(ends, 1, 1, 8, 9);
        shareIs(ends, 8, 1, 1, 9);
        shareIs(ends, 7, 0, 0, 1);
        shareIs(ends, 7, 1, 0, 1);
        for (int n = 1; n <= 8; n++) {
            shareIs(with(n), n, 0, 1, 1);
            shareIs(with(n), n, 1, 1, 1);
        }
        shareIs(withMany(40), 1, 1, 1, 1);
        // 1 by 7 of 1 + 1/2 + .. + 1/8 = 761/280
        shareIs(with(1, 2, 3, 4, 5, 6, 7, 8), 7, 1, 40, 761);
        Due.by("Terms 2", "MEAN among children, among families.");
        for (int n = 1; n <= 8; n++) {
            sizeIs(with(n), 0, n, 1);
            sizeIs(with(n), 1, n, 1);
        }
        sizeIs(ends, 0, 9, 2);
        // two children of 9 by 8 families
        sizeIs(ends, 1, 16, 9);
        sizeIs(with(1, 2, 3, 4, 5, 6, 7, 8), 0, 9, 2);
        sizeIs(with(1, 2, 3, 4, 5, 6, 7, 8), 1, 2240, 761);
        sizeIs(withMany(40), 1, 1, 1);
    }

    private static void towns() {
        Due.by("Terms 2", "TOWNS 0 to 3 have FAMILIES of n children (0 to 9 of each n; none at first).");
        LongestMet x = new LongestMet();
        for (int town = 0; town <= 3; town++) {
            for (int n = 1; n <= 8; n++) {
                Due.is("families(" + town + ", " + n + ", 9), none at first", x.families(town, n, 9), 0);
                Due.is("families(" + town + ", " + n + ", 0)", x.families(town, n, 0), 9);
            }
        }
        Refusal.outside("families(#, 1, 1)", 0, 3, (y, town) -> y.families(town, 1, 1), BAD);
        Refusal.outside("families(0, #, 1)", 1, 8, (y, n) -> y.families(0, n, 1), BAD);
        Refusal.outside("families(0, 1, #)", 0, 9, (y, v) -> y.families(0, 1, v), BAD);
    }

    private static void chanceIs(LongestMet x, int town, long above, long below) {
        Due.is("chance(" + town + ", 0)", x.chance(town, 0), above);
        Due.is("chance(" + town + ", 1)", x.chance(town, 1), below);
    }

    private static void chances() {
        Due.by("Terms 2", "CHANCE of a TOWN: that as many as COUNT (8 at most: FULL),");
        LongestMet eight = withMany(8);
        eight.families(3, 1, 8);
        chanceIs(eight, 3, 1, 1);
        LongestMet nine = withMany(9);
        nine.families(3, 1, 9);
        chanceIs(nine, 3, LONG_FULL, LONG_FULL);
        nine.takeBack(0, 0);
        chanceIs(nine, 3, 1, 1);
        LongestMet late = withMany(8);
        late.asked(1, 5);
        late.families(3, 1, 9);
        chanceIs(late, 3, LONG_FULL, LONG_FULL);
        late.asOf(4);
        chanceIs(late, 3, 1, 1);
        Due.by("Terms 2", "asked of all its children, each choice of children alike, none twice, say just so often what they said;");
        LongestMet x = with(2, 2);
        x.families(0, 2, 1);
        chanceIs(x, 0, 1, 1);
        x.families(0, 1, 1);
        // of 3 children one choice of 3
        chanceIs(x, 0, 1, 3);
        LongestMet three = with(2, 2, 2);
        three.families(0, 2, 1);
        three.families(0, 1, 1);
        // 3 children, but only two of them say 2
        chanceIs(three, 0, 0, 1);
        LongestMet most = with(1, 2, 3, 4, 5, 6, 7, 8);
        for (int n = 1; n <= 8; n++) most.families(0, n, 9);
        chanceIs(most, 0, 2678462640L, 4260297731657L);
        LongestMet alike = new LongestMet();
        for (int a = 0; a < 8; a++) alike.asked(8, 0);
        for (int n = 1; n <= 8; n++) alike.families(0, n, 9);
        // 72 over 8 by 324 over 8
        java.math.BigInteger above = over(72, 8);
        java.math.BigInteger below = over(324, 8);
        java.math.BigInteger common = above.gcd(below);
        chanceIs(alike, 0, above.divide(common).longValueExact(), below.divide(common).longValueExact());
        Due.by("Terms 2", "a FRACTION (where none COUNT: 1 of each TOWN).");
        LongestMet none = new LongestMet();
        none.families(1, 8, 9);
        for (int town = 0; town <= 3; town++) chanceIs(none, town, 1, 1);
        LongestMet back = with(3);
        back.takeBack(0, 0);
        for (int town = 0; town <= 3; town++) chanceIs(back, town, 1, 1);
    }

    private static java.math.BigInteger over(int among, int chosen) {
        java.math.BigInteger ways = java.math.BigInteger.ONE;
        for (int i = 1; i <= chosen; i++) {
            ways = ways.multiply(java.math.BigInteger.valueOf(among - chosen + i)).divide(java.math.BigInteger.valueOf(i));
        }
        return ways;
    }

    private static void likeliest() {
        Due.by("Terms 2", "LIKELIEST: the TOWN with the greatest CHANCE, of like ones the least");
        Due.is("likeliest(), none COUNT: all have 1", new LongestMet().likeliest(), 0);
        for (int town = 3; town >= 0; town--) {
            LongestMet x = with(1);
            for (int t = 0; t <= 3; t++) x.families(t, 1, 1);
            for (int t = 0; t <= 3; t++) x.families(t, 2, t >= town ? 1 : 2);
            Due.is("likeliest(), " + town + " to 3 are alike", x.likeliest(), town);
        }
        LongestMet inOtherTerms = with(1);
        inOtherTerms.families(1, 1, 2);
        inOtherTerms.families(1, 4, 1);
        inOtherTerms.families(3, 1, 1);
        inOtherTerms.families(3, 2, 1);
        Due.is("likeliest() of 2 by 6 and 1 by 3", inOtherTerms.likeliest(), 1);
        inOtherTerms.families(1, 1, 0);
        Due.is("likeliest() of 0 by 4 and 1 by 3", inOtherTerms.likeliest(), 3);
        Due.by("Terms 2", "(one that has fewer children has none);");
        LongestMet few = with(1, 1);
        few.families(0, 1, 1);
        few.families(2, 1, 9);
        Due.is("likeliest(), one child where two were asked", few.likeliest(), 2);
        few.families(0, 1, 2);
        Due.is("likeliest(), two children", few.likeliest(), 0);
        Due.by("Terms 2", "NONE: all have 0, or none.");
        LongestMet zero = with(1);
        for (int town = 0; town <= 3; town++) zero.families(town, 2, 1);
        Due.is("likeliest(), all have 0", zero.likeliest(), NONE);
        Due.is("likeliest(), all have none", with(1).likeliest(), NONE);
        zero.families(1, 2, 0);
        Due.is("likeliest(), some have 0, one has none", zero.likeliest(), NONE);
        zero.families(3, 1, 1);
        Due.is("likeliest(), one has more", zero.likeliest(), 3);
    }

    /** Of one answer 1: each share of such children that a town with up to 30 children can have, against each other. */
    private static void likeliestOfMany() {
        Due.by("Terms 2", "LIKELIEST: the TOWN with the greatest CHANCE, of like ones the least");
        for (int a = 0; a <= 9; a++) {
            for (int all = Math.max(a, 1); all <= 30; all++) {
                for (int b = 0; b <= 9; b++) {
                    for (int others = Math.max(b, 1); others <= 30; others++) likeliestOfTwo(a, all, b, others);
                }
            }
        }
    }

    private static void likeliestOfTwo(int a, int all, int b, int others) {
        LongestMet x = with(1);
        // one child cannot be made of families of two and more
        if (!haveTown(x, 1, a, all - a) || !haveTown(x, 2, b, others - b)) return;
        int due = a == 0 && b == 0 ? NONE : a * others >= b * all ? 1 : 2;
        Due.is("likeliest() of " + a + " by " + all + " and " + b + " by " + others, x.likeliest(), due);
    }

    /** So many children that say 1, and so many that say more; false: there are no such families. */
    private static boolean haveTown(LongestMet x, int town, int ones, int rest) {
        x.families(town, 1, ones);
        int left = rest;
        if (left % 2 == 1) {
            x.families(town, 3, 1);
            left -= 3;
        }
        if (left < 0) return false;
        x.families(town, 4, left / 4);
        x.families(town, 2, left % 4 / 2);
        return true;
    }

    private static void promise10() {
        Due.by("Promise 10", "An ANSWER more: its number.");
        LongestMet x = new LongestMet();
        Due.is("asked(8, 0)", x.asked(8, 0), 0);
        Due.is("asked(1, 999)", x.asked(1, 999), 1);
        Due.is("count(3)", x.count(3), 2);
        Due.by("Promise 10", "BAD: also a TIME less than the one before; FULL.");
        Refusal.bounds("asked(#, 999)", 1, 8, (y, n) -> y.asked(n, 999), BAD);
        Refusal.outside("asked(1, #)", 0, 999, (y, time) -> y.asked(1, time), BAD);
        Refusal.in(State.SOME, "asked(1, 19), 20 was before", y -> y.asked(1, 19), BAD);
        Due.is("asked(1, 20), 20 was before", State.SOME.make().asked(1, 20), 4);
        Refusal.in(State.FILLED, "asked(1, 998), 999 was before: BAD first", y -> y.asked(1, 998), BAD);
        Refusal.in(State.FILLED, "asked(0, 999): BAD first", y -> y.asked(0, 999), BAD);
        Refusal.in(State.FILLED, "asked(1, 999), the 41st", y -> y.asked(1, 999), FULL);
        Refusal.in(State.FILLED, "asked(8, 999), the 41st", y -> y.asked(8, 999), FULL);
        LongestMet full = withMany(40);
        Due.is("asked(1, 500), the 41st", full.asked(1, 500), FULL);
        Due.is("takeBack(0, 0): the TIME did not go on", full.takeBack(0, 0), 1);
    }

    private static LongestMet withSheet(int form, int... items) {
        LongestMet x = new LongestMet();
        x.sheet(1, form, items.length);
        for (int i = 0; i < items.length; i++) x.put(1, form, i, items[i]);
        return x;
    }

    private static void promise11() {
        Due.by("Promise 11", "ANSWERS more, behind those that there are, at a TIME:");
        LongestMet x = withSheet(0, 3, 8, 1);
        x.asked(5, 2);
        Due.is("read(1, 7)", x.read(1, 7), 3);
        Due.is("count(3)", x.count(3), 4);
        Due.is("takeBack(1, 7), the 3", x.takeBack(1, 7), 1);
        Due.is("said(3)", x.said(3), 0);
        Due.is("takeBack(3, 7), the 1", x.takeBack(3, 7), 1);
        Due.is("said(1)", x.said(1), 0);
        x.asOf(6);
        Due.is("count(4) as of 6", x.count(4), 1);
        LongestMet late = withSheet(0, 3, 8, 1);
        late.read(1, 7);
        Due.is("asked(1, 6) behind read(1, 7)", late.asked(1, 6), BAD);
        Due.is("asked(1, 7) behind read(1, 7)", late.asked(1, 7), 3);
        Due.by("Promise 11", "items of a SHEET, one by one as asked() takes them,");
        for (int form = 0; form <= 2; form++) {
            LongestMet y = withSheet(form, 1, 2, 3, 4, 5, 6, 7, 8);
            Due.is("read(1, 0) of form " + form, y.read(1, 0), 8);
            for (int n = 1; n <= 8; n++) Due.is("said(" + n + ")", y.said(n), 1);
            Due.is("get(1, " + form + ", 7): the SHEET stays", y.get(1, form, 7), 8);
        }
        LongestMet shorter = withSheet(0, 1, 2, 3, 4, 5, 6, 7, 8);
        shorter.sheet(1, 0, 2);
        shorter.put(1, 0, 0, 8);
        shorter.put(1, 0, 1, 8);
        Due.is("read(1, 0) of a row that was longer", shorter.read(1, 0), 2);
        Due.is("count(3)", shorter.count(3), 2);
        Due.is("read(1, 0) of no items", withSheet(2).read(1, 0), 0);
        Due.is("read(1, 999) of no items", withSheet(2).read(1, 999), 0);
    }

    private static void promise11Stops() {
        Due.by("Promise 11", "up to the first that it refuses: how many it took.");
        int[] refused = {0, 9, -1, -128, 127};
        for (int n : refused) {
            LongestMet x = withSheet(0, 1, 2, n, 4);
            Due.is("read(1, 0) up to " + n, x.read(1, 0), 2);
            Due.is("count(3)", x.count(3), 2);
            Due.is("said(4)", x.said(4), 0);
            Due.is("read(1, 0) of " + n + " alone", withSheet(0, n).read(1, 0), 0);
        }
        Due.is("read(1, 0) of 264 as an int", withSheet(2, 264).read(1, 0), 0);
        Due.is("read(1, 0) of 264 as a byte, 8", withSheet(0, 264).read(1, 0), 1);
        for (int before = 37; before <= 40; before++) {
            LongestMet x = withMany(before);
            x.sheet(0, 0, 3);
            for (int i = 0; i < 3; i++) x.put(0, 0, i, 8);
            Due.is("read(0, 0) behind " + before, x.read(0, 0), Math.min(3, 40 - before));
            Due.is("count(3)", x.count(3), Math.min(40, before + 3));
            Due.is("said(8)", x.said(8), Math.min(3, 40 - before));
        }
        LongestMet sixty = new LongestMet();
        sixty.sheet(0, 1, 60);
        for (int i = 0; i < 60; i++) sixty.put(0, 1, i, 1 + i % 8);
        Due.is("read(0, 0) of 60", sixty.read(0, 0), 40);
        LongestMet none = withSheet(0, 0);
        Due.is("read(1, 500) that takes none", none.read(1, 500), 0);
        Due.is("asked(1, 0): no ANSWER, no TIME", none.asked(1, 0), 0);
    }

    private static void promise11Refuses() {
        Due.by("Promise 11", "BAD: likewise; NULL.");
        Refusal.bounds("read(#, 999)", 0, 3, (y, s) -> y.read(s, 999), BAD);
        Refusal.outside("read(0, #)", 0, 999, (y, time) -> y.read(0, time), BAD);
        Refusal.outside("read(3, #)", 0, 999, (y, time) -> y.read(3, time), BAD);
        Refusal.in(State.SOME, "read(0, 19), 20 was before", y -> y.read(0, 19), BAD);
        Refusal.in(State.SOME, "read(3, 19), LOST: BAD first", y -> y.read(3, 19), BAD);
        Refusal.in(State.SOME, "read(3, 20), LOST", y -> y.read(3, 20), Refusal.NULL);
        Refusal.in(State.FILLED, "read(0, 998), 999 was before", y -> y.read(0, 998), BAD);
        for (int n = 0; n <= 3; n++) {
            int s = n;
            Refusal.in(State.NEW, "read(" + s + ", 0), LOST", y -> y.read(s, 0), Refusal.NULL);
            Refusal.in(State.NEW, "read(" + s + ", 999), LOST", y -> y.read(s, 999), Refusal.NULL);
            Refusal.in(State.FILLED, "read(" + s + ", 999), 40 are there", y -> y.read(s, 999), 0);
        }
        LongestMet full = withMany(40);
        Due.is("read(0, 0), LOST, 40 are there", full.read(0, 0), Refusal.NULL);
    }

    private static void promise12() {
        Due.by("Promise 12", "An ANSWER is TAKEN BACK at a TIME: 1.");
        LongestMet x = with(2, 3);
        Due.is("takeBack(1, 999)", x.takeBack(1, 999), 1);
        Due.is("said(3)", x.said(3), 0);
        Due.is("said(2)", x.said(2), 1);
        Due.is("takeBack(0, 999)", x.takeBack(0, 999), 1);
        Due.is("count(3)", x.count(3), 2);
        Due.by("Promise 12", "BAD: likewise; NOT: it is already.");
        Refusal.outside("takeBack(#, 999)", 0, 39, (y, a) -> y.takeBack(a, 999), BAD);
        Refusal.in(State.NEW, "takeBack(0, 999), no ANSWER", y -> y.takeBack(0, 999), BAD);
        Refusal.in(State.SOME, "takeBack(4, 999), 4 ANSWERS", y -> y.takeBack(4, 999), BAD);
        Due.is("takeBack(3, 20), 4 ANSWERS", State.SOME.make().takeBack(3, 20), 1);
        Due.is("takeBack(38, 999), 40 ANSWERS", State.FILLED.make().takeBack(38, 999), 1);
        Refusal.outside("takeBack(0, #)", 0, 999, (y, time) -> y.takeBack(0, time), BAD);
        Refusal.in(State.SOME, "takeBack(0, 19), 20 was before", y -> y.takeBack(0, 19), BAD);
        Refusal.in(State.SOME, "takeBack(1, 19), already, but 20 was before: BAD first", y -> y.takeBack(1, 19), BAD);
        Refusal.in(State.SOME, "takeBack(1, 20), already", y -> y.takeBack(1, 20), NOT);
        Refusal.in(State.SOME, "takeBack(1, 999), already", y -> y.takeBack(1, 999), NOT);
        Refusal.in(State.FILLED, "takeBack(39, 999), already", y -> y.takeBack(39, 999), NOT);
        LongestMet past = with(2);
        past.takeBack(0, 50);
        past.asOf(10);
        Due.is("count(4) as of 10", past.count(4), 1);
        Due.is("takeBack(0, 60): already, though it COUNTS as of 10", past.takeBack(0, 60), NOT);
    }

    private static void promise13() {
        Due.by("Promise 13", "AS OF: what it was. BAD.");
        LongestMet x = new LongestMet();
        Due.is("asOf(0)", x.asOf(0), 999);
        Due.is("asOf(999)", x.asOf(999), 0);
        Due.is("asOf(500)", x.asOf(500), 999);
        Due.is("asOf(1000)", x.asOf(1000), BAD);
        Due.is("asOf(-1)", x.asOf(-1), BAD);
        Due.is("asOf(500) again", x.asOf(500), 500);
        Refusal.bounds("asOf(#)", 0, 999, (y, time) -> y.asOf(time), BAD);
        LongestMet past = State.SOME.make();
        past.asOf(0);
        Due.is("asked(1, 19) as of 0: the TIME is not another", past.asked(1, 19), BAD);
        Due.is("asked(1, 20) as of 0", past.asked(1, 20), 4);
        Due.is("count(4) as of 0", past.count(4), 0);
    }

    private static void promise14() {
        Due.by("Promise 14", "ASKED n. BAD.");
        LongestMet x = with(1, 8, 8);
        int[] said = {1, 0, 0, 0, 0, 0, 0, 2};
        for (int n = 1; n <= 8; n++) Due.is("said(" + n + ")", x.said(n), said[n - 1]);
        for (int n = 1; n <= 8; n++) Due.is("said(" + n + "), nobody", new LongestMet().said(n), 0);
        Refusal.bounds("said(#)", 1, 8, (y, n) -> y.said(n), BAD);
        Refusal.asksOnly("said(2)", y -> y.said(2));
    }

    private static void promise15() {
        Due.by("Promise 15", "SHARE of n among children (of = 0), families (1): above, below.");
        LongestMet x = with(2, 2, 6, 6);
        shareIs(x, 2, 0, 1, 2);
        shareIs(x, 2, 1, 3, 4);
        Due.by("Promise 15", "BAD; NOT: none COUNT. (A refusal -x is the least long and x more.)");
        Refusal.bounds("share(#, 0, 0)", 1, 8, (y, n) -> y.share(n, 0, 0), LONG_BAD);
        Refusal.bounds("share(1, #, 0)", 0, 1, (y, of) -> y.share(1, of, 0), LONG_BAD);
        Refusal.bounds("share(1, 0, #)", 0, 1, (y, what) -> y.share(1, 0, what), LONG_BAD);
        Refusal.bounds("share(1, 1, #)", 0, 1, (y, what) -> y.share(1, 1, what), LONG_BAD);
        LongestMet back = with(3);
        back.takeBack(0, 9);
        for (int n = 0; n < 32; n++) {
            int size = 1 + n / 4, of = n / 2 % 2, what = n % 2;
            Refusal.in(State.NEW, "share(" + size + ", " + of + ", " + what + ")", y -> y.share(size, of, what), LONG_NOT);
            Due.is("share(" + size + ", " + of + ", " + what + "), the only one taken back", back.share(size, of, what), LONG_NOT);
        }
        back.asOf(8);
        shareIs(back, 3, 0, 1, 1);
        Refusal.asksOnly("share(2, 1, 1)", y -> y.share(2, 1, 1));
    }

    private static void promise16() {
        Due.by("Promise 16", "MEAN among children (of = 0), families (1): above, below.");
        LongestMet x = with(1, 4);
        sizeIs(x, 0, 5, 2);
        sizeIs(x, 1, 8, 5);
        Due.by("Promise 16", "BAD; NOT: likewise. (A refusal -x is the least long and x more.)");
        Refusal.bounds("size(#, 0)", 0, 1, (y, of) -> y.size(of, 0), LONG_BAD);
        Refusal.bounds("size(0, #)", 0, 1, (y, what) -> y.size(0, what), LONG_BAD);
        Refusal.bounds("size(1, #)", 0, 1, (y, what) -> y.size(1, what), LONG_BAD);
        LongestMet back = with(3);
        back.takeBack(0, 0);
        for (int n = 0; n < 4; n++) {
            int of = n / 2, what = n % 2;
            Refusal.in(State.NEW, "size(" + of + ", " + what + ")", y -> y.size(of, what), LONG_NOT);
            Due.is("size(" + of + ", " + what + "), the only one taken back", back.size(of, what), LONG_NOT);
            Refusal.asksOnly("size(" + of + ", " + what + ")", y -> y.size(of, what));
        }
    }

    private static void promise17() {
        Due.by("Promise 17", "FAMILIES of n children of a TOWN: how many there were. BAD.");
        LongestMet x = new LongestMet();
        Due.is("families(0, 1, 9)", x.families(0, 1, 9), 0);
        Due.is("families(0, 1, 10)", x.families(0, 1, 10), BAD);
        Due.is("families(0, 1, -1)", x.families(0, 1, -1), BAD);
        Due.is("families(0, 1, 0)", x.families(0, 1, 0), 9);
        Due.is("families(0, 1, 0) again", x.families(0, 1, 0), 0);
        Due.is("families(3, 8, 4)", x.families(3, 8, 4), 0);
        Due.is("families(3, 7, 4), of its own", x.families(3, 7, 4), 0);
        Due.is("families(2, 8, 4), of its own", x.families(2, 8, 4), 0);
        Due.is("families(3, 8, 4), as it was", x.families(3, 8, 4), 4);
        Refusal.bounds("families(#, 8, 9)", 0, 3, (y, town) -> y.families(town, 8, 9), BAD);
        Refusal.bounds("families(3, #, 9)", 1, 8, (y, n) -> y.families(3, n, 9), BAD);
        Refusal.bounds("families(3, 8, #)", 0, 9, (y, v) -> y.families(3, 8, v), BAD);
    }

    private static void promise18() {
        Due.by("Promise 18", "CHANCE of a TOWN: above, below.");
        LongestMet x = with(1, 2);
        x.families(1, 1, 2);
        x.families(1, 2, 1);
        // 2 times 2 of 6 pairs
        chanceIs(x, 1, 2, 3);
        Due.by("Promise 18", "BAD; FULL; NOT: it has fewer children. (A refusal -x is the least long and x more.)");
        Refusal.bounds("chance(#, 0)", 0, 3, (y, town) -> y.chance(town, 0), LONG_BAD);
        Refusal.bounds("chance(0, #)", 0, 1, (y, what) -> y.chance(0, what), LONG_BAD);
        chanceIs(x, 0, LONG_NOT, LONG_NOT);
        x.families(0, 1, 1);
        chanceIs(x, 0, LONG_NOT, LONG_NOT);
        x.families(0, 1, 2);
        chanceIs(x, 0, 0, 1);
        for (int n = 0; n < 8; n++) {
            int town = n / 2, what = n % 2;
            String name = "chance(" + town + ", " + what + ")";
            Refusal.in(State.FILLED, name + ", 38 COUNT", y -> y.chance(town, what), LONG_FULL);
            Due.is(name + ", 9 COUNT, fewer children: FULL first", withMany(9).chance(town, what), LONG_FULL);
            Due.is(name + ", 8 COUNT, fewer children", withMany(8).chance(town, what), LONG_NOT);
            Refusal.asksOnly(name, y -> y.chance(town, what));
        }
        Refusal.in(State.SOME, "chance(3, 0), fewer children", y -> y.chance(3, 0), LONG_NOT);
        Due.is("chance(4, 0), 9 COUNT: BAD first", withMany(9).chance(4, 0), LONG_BAD);
        Due.is("FULL as a long", withMany(9).chance(0, 0), Long.MIN_VALUE + 4);
    }

    private static void promise19() {
        Due.by("Promise 19", "LIKELIEST; NONE. FULL.");
        Due.is("likeliest(), none COUNT", new LongestMet().likeliest(), 0);
        Due.is("likeliest(), 8 COUNT, no children", withMany(8).likeliest(), NONE);
        Due.is("likeliest(), 9 COUNT, no children", withMany(9).likeliest(), FULL);
        LongestMet x = withMany(9);
        x.families(2, 1, 9);
        Due.is("likeliest(), 9 COUNT", x.likeliest(), FULL);
        x.takeBack(4, 0);
        Due.is("likeliest(), 8 COUNT", x.likeliest(), 2);
        Refusal.in(State.FILLED, "likeliest(), 38 COUNT", y -> y.likeliest(), FULL);
        Refusal.asksOnly("likeliest()", y -> y.likeliest());
    }
}
