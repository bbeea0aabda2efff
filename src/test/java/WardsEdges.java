/** The boundary cases of part 3 of the terms and of promises 20 to 24. */
final class WardsEdges {
    private static final int BAD = LongestMet.BAD, NOT = LongestMet.NOT, FULL = LongestMet.FULL;
    private static final long LONG_BAD = Refusal.LONG_BAD, LONG_NOT = Refusal.LONG_NOT;
    private static final int COMERS = 0, THERE = 1, BEDS = 2, EVEN = 3;

    private WardsEdges() {
    }

    static void run() {
        stays();
        lengths();
        spans();
        meanLengths();
        harmonic();
        rates();
        fullest();
        apart();
        promise20();
        promise21();
        promise22();
        promise23();
        promise24();
    }

    /** STAYS by their first and last days, one behind the other. */
    private static LongestMet with(int... days) {
        LongestMet x = new LongestMet();
        for (int i = 0; i < days.length; i += 2) x.stay(days[i], days[i + 1]);
        return x;
    }

    private static void wardIs(LongestMet x, int from, int to, int what, int due) {
        Due.is("ward(" + from + ", " + to + ", " + what + ")", x.ward(from, to, what), due);
    }

    private static void meansAre(LongestMet x, int from, int to, int which, long above, long below) {
        Due.is("means(" + from + ", " + to + ", " + which + ", 0)", x.means(from, to, which, 0), above);
        Due.is("means(" + from + ", " + to + ", " + which + ", 1)", x.means(from, to, which, 1), below);
    }

    private static void stays() {
        Due.by("Terms 3", "STAYS, 24 at most:");
        LongestMet x = new LongestMet();
        for (int i = 0; i <= 23; i++) Due.is("stay(0, 0), number " + i, x.stay(0, 0), i);
        Due.is("stay(0, 0), the 25th", x.stay(0, 0), FULL);
        Due.is("count(5)", x.count(5), 24);
        Due.by("Terms 3", "one lies in a WARD from a DAY to a DAY (0 to 99; the second not less, 19 more at most; both with it).");
        Due.is("stay(0, 0)", new LongestMet().stay(0, 0), 0);
        Due.is("stay(99, 99)", new LongestMet().stay(99, 99), 0);
        for (int from = 0; from <= 99; from++) {
            for (int to = -1; to <= 101; to++) {
                boolean may = to >= from && to <= from + 19 && to <= 99;
                Due.is("stay(" + from + ", " + to + ")", new LongestMet().stay(from, to), may ? 0 : BAD);
            }
        }
        LongestMet both = with(10, 12);
        wardIs(both, 9, 9, THERE, 0);
        wardIs(both, 10, 10, THERE, 1);
        wardIs(both, 12, 12, THERE, 1);
        wardIs(both, 13, 13, THERE, 0);
    }

    private static void lengths() {
        Due.by("Terms 3", "LENGTH: DAYS from the one to the other, with both.");
        meansAre(with(7, 7), 7, 7, 0, 1, 1);
        meansAre(with(7, 8), 7, 7, 0, 2, 1);
        meansAre(with(80, 99), 80, 80, 0, 20, 1);
        meansAre(with(0, 19), 0, 0, 0, 20, 1);
    }

    private static void spans() {
        Due.by("Terms 3", "In a SPAN of DAYS (a first, a last, not less):");
        LongestMet x = with(0, 0, 50, 50, 99, 99);
        wardIs(x, 0, 99, THERE, 3);
        wardIs(x, 50, 50, THERE, 1);
        wardIs(x, 0, 0, THERE, 1);
        wardIs(x, 99, 99, THERE, 1);
        Refusal.inAll("ward(50, 49, 0)", y -> y.ward(50, 49, 0), BAD);
        Refusal.inAll("ward(99, 0, 0)", y -> y.ward(99, 0, 0), BAD);
        Refusal.inAll("means(50, 49, 5, 0)", y -> y.means(50, 49, 5, 0), LONG_BAD);
        Due.by("Terms 3", "COMERS: STAYS that begin in it;");
        LongestMet one = with(20, 25);
        wardIs(one, 0, 19, COMERS, 0);
        wardIs(one, 0, 20, COMERS, 1);
        wardIs(one, 20, 20, COMERS, 1);
        wardIs(one, 20, 99, COMERS, 1);
        wardIs(one, 21, 99, COMERS, 0);
        wardIs(one, 25, 25, COMERS, 0);
        Due.by("Terms 3", "THERE: STAYS that have a DAY in it;");
        wardIs(one, 0, 19, THERE, 0);
        wardIs(one, 0, 20, THERE, 1);
        wardIs(one, 22, 23, THERE, 1);
        wardIs(one, 0, 99, THERE, 1);
        wardIs(one, 25, 99, THERE, 1);
        wardIs(one, 26, 99, THERE, 0);
        Due.by("Terms 3", "BEDS: for each DAY how many lie there, together.");
        wardIs(one, 0, 19, BEDS, 0);
        wardIs(one, 0, 20, BEDS, 1);
        wardIs(one, 22, 23, BEDS, 2);
        wardIs(one, 0, 99, BEDS, 6);
        wardIs(one, 25, 99, BEDS, 1);
        wardIs(one, 26, 99, BEDS, 0);
        wardIs(with(20, 25, 25, 26), 25, 25, BEDS, 2);
        LongestMet most = new LongestMet();
        for (int i = 0; i < 24; i++) most.stay(80, 99);
        wardIs(most, 0, 99, BEDS, 480);
    }

    private static void meanLengths() {
        // lengths 10, 1 and 5
        LongestMet x = with(5, 14, 10, 10, 20, 24);
        Due.by("Terms 3", "MEAN LENGTH of COMERS;");
        meansAre(x, 10, 20, 0, 3, 1);
        meansAre(x, 5, 10, 0, 11, 2);
        meansAre(x, 6, 9, 0, LONG_NOT, LONG_NOT);
        Due.by("Terms 3", "of who is THERE;");
        meansAre(x, 10, 20, 1, 16, 3);
        meansAre(x, 6, 9, 1, 10, 1);
        meansAre(x, 15, 19, 1, LONG_NOT, LONG_NOT);
        Due.by("Terms 3", "of who is met there on a DAY of the SPAN (each DAY and each who lies there on it alike);");
        // 5 DAYS of 10, 1 of 1, 1 of 5
        meansAre(x, 10, 20, 2, 8, 1);
        meansAre(x, 14, 20, 2, 15, 2);
        meansAre(x, 15, 19, 2, LONG_NOT, LONG_NOT);
        LongestMet most = new LongestMet();
        for (int i = 0; i < 24; i++) most.stay(0, 19);
        meansAre(most, 0, 99, 2, 20, 1);
    }

    private static void harmonic() {
        Due.by("Terms 3", "HARMONIC: as many as BEDS by the sum, over DAYS and all who lie there, of 1 by LENGTH.");
        LongestMet x = with(5, 14, 10, 10, 20, 24);
        meansAre(x, 10, 20, 3, 70, 17);
        meansAre(x, 0, 99, 3, 16, 3);
        meansAre(x, 15, 19, 3, LONG_NOT, LONG_NOT);
        for (int length = 1; length <= 20; length++) meansAre(with(40, 39 + length), 40, 40, 3, length, 1);
        LongestMet all = new LongestMet();
        for (int length = 1; length <= 20; length++) all.stay(40, 39 + length);
        // 20 by 1 + 1/2 + .. + 1/20 = 55835135/15519504
        meansAre(all, 40, 40, 3, 62078016, 11167027);
    }

    private static void rates() {
        Due.by("Terms 3", "RATE: COMERS by DAYS; FILL: BEDS by DAYS.");
        LongestMet x = with(5, 14, 10, 10, 20, 24);
        meansAre(x, 10, 20, 4, 2, 11);
        meansAre(x, 10, 20, 5, 7, 11);
        meansAre(x, 10, 10, 4, 1, 1);
        meansAre(x, 10, 10, 5, 2, 1);
        meansAre(x, 0, 99, 4, 3, 100);
        meansAre(x, 0, 99, 5, 4, 25);
        meansAre(x, 15, 19, 4, 0, 1);
        meansAre(x, 15, 19, 5, 0, 1);
        Due.by("Terms 3", "EVEN: whether RATE times MEAN LENGTH of COMERS is FILL (1, 0; NOT: no COMERS). FRACTIONS.");
        wardIs(x, 0, 99, EVEN, 1);
        wardIs(x, 5, 14, EVEN, 1);
        wardIs(x, 5, 13, EVEN, 0);
        wardIs(x, 6, 14, EVEN, 0);
        wardIs(x, 6, 9, EVEN, NOT);
        wardIs(x, 15, 19, EVEN, NOT);
        // as many DAYS come in from ahead as go out behind
        wardIs(with(3, 5, 14, 15, 5, 14), 5, 14, EVEN, 1);
        wardIs(with(3, 5, 14, 16, 5, 14), 5, 14, EVEN, 0);
        wardIs(with(2, 6, 14, 16), 5, 14, EVEN, 1);
    }

    private static void fullestIs(LongestMet x, int day, int many) {
        Due.is("fullest(0)", x.fullest(0), day);
        Due.is("fullest(1)", x.fullest(1), many);
    }

    private static void fullest() {
        Due.by("Terms 3", "FULLEST: the DAY (0 to 99) on which most lie there, of like ones the first; how many.");
        fullestIs(new LongestMet(), 0, 0);
        fullestIs(with(0, 0), 0, 1);
        fullestIs(with(99, 99), 99, 1);
        fullestIs(with(80, 99), 80, 1);
        fullestIs(with(50, 51, 0, 0), 0, 1);
        fullestIs(with(50, 51, 51, 52), 51, 2);
        fullestIs(with(50, 51, 51, 52, 7, 8, 8, 9), 8, 2);
        fullestIs(with(98, 99, 99, 99, 0, 1), 99, 2);
        LongestMet most = new LongestMet();
        for (int i = 0; i < 24; i++) most.stay(80 - i % 20, 99 - i % 20);
        fullestIs(most, 80, 24);
        most.leaves(0, 80);
        fullestIs(most, 80, 24);
        most.leaves(19, 79);
        fullestIs(most, 80, 23);
    }

    private static void apart() {
        Due.by("Terms 3", "APART: the most STAYS of which no two have a DAY in common.");
        Due.is("fullest(2), no STAYS", new LongestMet().fullest(2), 0);
        Due.is("fullest(2), one", with(99, 99).fullest(2), 1);
        Due.is("fullest(2), one DAY in common", with(0, 5, 5, 9).fullest(2), 1);
        Due.is("fullest(2), none in common", with(0, 5, 6, 9).fullest(2), 2);
        Due.is("fullest(2), the same one twice", with(4, 4, 4, 4).fullest(2), 1);
        Due.is("fullest(2), one over both", with(0, 9, 0, 4, 5, 9).fullest(2), 2);
        Due.is("fullest(2), first and last day", with(99, 99, 0, 0).fullest(2), 2);
        LongestMet all = new LongestMet();
        LongestMet none = new LongestMet();
        for (int i = 23; i >= 0; i--) {
            all.stay(4 * i, 4 * i + 3);
            none.stay(40 - i % 20, 40);
        }
        Due.is("fullest(2), 24", all.fullest(2), 24);
        Due.is("fullest(2), all have DAY 40", none.fullest(2), 1);
    }

    private static void promise20() {
        Due.by("Promise 20", "A STAY more: its number.");
        LongestMet x = new LongestMet();
        Due.is("stay(0, 19)", x.stay(0, 19), 0);
        Due.is("stay(80, 99)", x.stay(80, 99), 1);
        Due.by("Promise 20", "BAD; FULL.");
        Refusal.bounds("stay(#, 99), from", 80, 99, (y, from) -> y.stay(from, 99), BAD);
        Refusal.bounds("stay(0, #)", 0, 19, (y, to) -> y.stay(0, to), BAD);
        Refusal.bounds("stay(50, #)", 50, 69, (y, to) -> y.stay(50, to), BAD);
        Refusal.bounds("stay(95, #)", 95, 99, (y, to) -> y.stay(95, to), BAD);
        Refusal.outside("stay(#, #)", 0, 99, (y, day) -> y.stay(day, day), BAD);
        Refusal.inAll("stay(-1, 0)", y -> y.stay(-1, 0), BAD);
        Refusal.in(State.FILLED, "stay(0, 0), the 25th", y -> y.stay(0, 0), FULL);
        Refusal.in(State.FILLED, "stay(80, 99), the 25th", y -> y.stay(80, 99), FULL);
        Refusal.in(State.FILLED, "stay(0, 20), the 25th: BAD first", y -> y.stay(0, 20), BAD);
    }

    private static void promise21() {
        Due.by("Promise 21", "A STAY ends on another DAY: on which it did.");
        LongestMet x = with(10, 12, 90, 95);
        Due.is("leaves(0, 29)", x.leaves(0, 29), 12);
        wardIs(x, 0, 89, BEDS, 20);
        Due.is("leaves(0, 10)", x.leaves(0, 10), 29);
        wardIs(x, 0, 89, BEDS, 1);
        Due.is("leaves(0, 10): the same DAY", x.leaves(0, 10), 10);
        Due.is("leaves(1, 99)", x.leaves(1, 99), 95);
        wardIs(x, 90, 99, BEDS, 10);
        Due.is("count(5): no STAY more", x.count(5), 2);
        Due.by("Promise 21", "BAD: also ahead of its first, or more than 19 behind it.");
        Due.is("leaves(0, 9): ahead of its first", x.leaves(0, 9), BAD);
        Due.is("leaves(0, 30): 20 behind it", x.leaves(0, 30), BAD);
        Due.is("leaves(1, 100): no such DAY", x.leaves(1, 100), BAD);
        Due.is("leaves(1, 89)", x.leaves(1, 89), BAD);
        Due.is("leaves(0, 10): as it was", x.leaves(0, 10), 10);
        Due.is("leaves(1, 99): as it was", x.leaves(1, 99), 99);
        Refusal.in(State.NEW, "leaves(0, 0), no STAY", y -> y.leaves(0, 0), BAD);
        Refusal.in(State.SOME, "leaves(3, 40), 3 STAYS", y -> y.leaves(3, 40), BAD);
        Due.is("leaves(2, 41), 3 STAYS", State.SOME.make().leaves(2, 41), 40);
        Refusal.in(State.SOME, "leaves(0, 4), from 5", y -> y.leaves(0, 4), BAD);
        Refusal.in(State.SOME, "leaves(0, 25), from 5", y -> y.leaves(0, 25), BAD);
        Refusal.outside("leaves(#, 50)", 0, 23, (y, stay) -> y.leaves(stay, 50), BAD);
        Refusal.outside("leaves(0, #)", 0, 99, (y, to) -> y.leaves(0, to), BAD);
        Due.is("leaves(23, 80), 24 STAYS", State.FILLED.make().leaves(23, 80), 83);
    }

    private static void promise22() {
        Due.by("Promise 22", "In a SPAN: COMERS (0), THERE (1), BEDS (2), EVEN (3; NOT). BAD.");
        LongestMet x = with(5, 14, 10, 10, 20, 24);
        wardIs(x, 10, 20, 0, 2);
        wardIs(x, 10, 20, 1, 3);
        wardIs(x, 10, 20, 2, 7);
        wardIs(x, 10, 20, 3, 0);
        wardIs(x, 0, 99, 3, 1);
        for (int what = 0; what <= 2; what++) wardIs(new LongestMet(), 0, 99, what, 0);
        Refusal.in(State.NEW, "ward(0, 99, 3), no COMERS", y -> y.ward(0, 99, 3), NOT);
        Refusal.in(State.SOME, "ward(13, 27, 3), no COMERS", y -> y.ward(13, 27, 3), NOT);
        Refusal.bounds("ward(0, 99, #)", 0, 3, (y, what) -> y.ward(0, 99, what), BAD);
        Refusal.bounds("ward(#, 99, 0)", 0, 99, (y, from) -> y.ward(from, 99, 0), BAD);
        Refusal.bounds("ward(0, #, 3)", 0, 99, (y, to) -> y.ward(0, to, 3), BAD);
        Refusal.bounds("ward(40, #, 3)", 40, 99, (y, to) -> y.ward(40, to, 3), BAD);
        for (int n = 0; n <= 3; n++) {
            int what = n;
            Refusal.asksOnly("ward(0, 20, " + what + ")", y -> y.ward(0, 20, what));
        }
    }

    private static void promise23() {
        Due.by("Promise 23", "In a SPAN: MEAN LENGTH of COMERS (which = 0), of THERE (1), of who is met (2), HARMONIC (3), RATE (4), FILL (5): above, below.");
        LongestMet x = with(5, 14, 10, 10, 20, 24);
        long[] due = {3, 1, 16, 3, 8, 1, 70, 17, 2, 11, 7, 11};
        for (int which = 0; which <= 5; which++) meansAre(x, 10, 20, which, due[2 * which], due[2 * which + 1]);
        Due.by("Promise 23", "BAD; NOT: there is none to divide by. (A refusal -x is the least long and x more.)");
        Refusal.bounds("means(0, 99, #, 0)", 0, 5, (y, which) -> y.means(0, 99, which, 0), LONG_BAD);
        Refusal.bounds("means(0, 99, 0, #)", 0, 1, (y, what) -> y.means(0, 99, 0, what), LONG_BAD);
        Refusal.bounds("means(0, 99, 5, #)", 0, 1, (y, what) -> y.means(0, 99, 5, what), LONG_BAD);
        Refusal.bounds("means(#, 99, 0, 0)", 0, 99, (y, from) -> y.means(from, 99, 0, 0), LONG_BAD);
        Refusal.bounds("means(40, #, 4, 0)", 40, 99, (y, to) -> y.means(40, to, 4, 0), LONG_BAD);
        for (int n = 0; n < 12; n++) {
            int which = n / 2, what = n % 2;
            String name = "(0, 99, " + which + ", " + what + ")";
            Refusal.in(State.NEW, "means" + name, y -> y.means(0, 99, which, what), which <= 3 ? LONG_NOT : what);
            Refusal.asksOnly("means" + name, y -> y.means(0, 99, which, what));
        }
        // there is one, but none that begins
        meansAre(x, 6, 6, 0, LONG_NOT, LONG_NOT);
        meansAre(x, 6, 6, 1, 10, 1);
        meansAre(x, 6, 6, 2, 10, 1);
        meansAre(x, 6, 6, 3, 10, 1);
        meansAre(x, 6, 6, 4, 0, 1);
        meansAre(x, 6, 6, 5, 1, 1);
    }

    private static void promise24() {
        Due.by("Promise 24", "FULLEST: the DAY (what = 0), how many lie there (1); APART (2). BAD.");
        LongestMet x = with(98, 99, 99, 99, 0, 1);
        Due.is("fullest(0)", x.fullest(0), 99);
        Due.is("fullest(1)", x.fullest(1), 2);
        Due.is("fullest(2)", x.fullest(2), 2);
        for (int what = 0; what <= 2; what++) Due.is("fullest(" + what + "), no STAYS", new LongestMet().fullest(what), 0);
        Refusal.bounds("fullest(#)", 0, 2, (y, what) -> y.fullest(what), BAD);
        for (int n = 0; n <= 2; n++) {
            int what = n;
            Refusal.asksOnly("fullest(" + what + ")", y -> y.fullest(what));
        }
    }
}
