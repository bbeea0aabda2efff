/** The boundary cases of part 5 of the terms and of promises 30 to 33. */
final class SticksEdges {
    private static final int BAD = LongestMet.BAD, FULL = LongestMet.FULL;
    private static final long LONG_BAD = Refusal.LONG_BAD, LONG_NOT = Refusal.LONG_NOT;

    private SticksEdges() {
    }

    static void run() {
        pieces();
        hits();
        means();
        promise30();
        promise31();
        promise32();
        promise33();
    }

    private static LongestMet with(int... lengths) {
        LongestMet x = new LongestMet();
        for (int length : lengths) x.piece(length);
        return x;
    }

    private static LongestMet longest() {
        return with(20, 20, 20, 20, 20, 20, 20, 20);
    }

    private static void hitIs(LongestMet x, int piece, int k, long above, long below) {
        Due.is("hit(" + piece + ", " + k + ", 0)", x.hit(piece, k, 0), above);
        Due.is("hit(" + piece + ", " + k + ", 1)", x.hit(piece, k, 1), below);
    }

    private static void stickIs(LongestMet x, int which, int k, long above, long below) {
        Due.is("stick(" + which + ", " + k + ", 0)", x.stick(which, k, 0), above);
        Due.is("stick(" + which + ", " + k + ", 1)", x.stick(which, k, 1), below);
    }

    private static void pieces() {
        Due.by("Terms 5", "A STICK has 1 to 8 PIECES, each of a LENGTH (1 to 20).");
        LongestMet x = new LongestMet();
        Due.is("piece(1)", x.piece(1), 1);
        Due.is("piece(20)", x.piece(20), 2);
        for (int n = 3; n <= 8; n++) Due.is("piece(20), " + n, x.piece(20), n);
        Due.is("piece(1), the 9th", x.piece(1), FULL);
        Due.is("count(7)", x.count(7), 141);
        for (int length = 1; length <= 20; length++) Due.is("count(7) of " + length, with(length).count(7), length);
        Refusal.outside("piece(#)", 1, 20, (y, length) -> y.piece(length), BAD);
    }

    private static void hits() {
        Due.by("Terms 5", "A POINT hits each spot alike.");
        hitIs(with(1, 3), 0, 1, 1, 4);
        hitIs(with(1, 3), 1, 1, 3, 4);
        hitIs(with(3, 3), 1, 1, 1, 2);
        Due.by("Terms 5", "HIT: the chance that a PIECE is hit by one POINT;");
        hitIs(with(1), 0, 1, 1, 1);
        hitIs(with(20), 0, 1, 1, 1);
        hitIs(longest(), 0, 1, 1, 8);
        hitIs(longest(), 7, 1, 1, 8);
        hitIs(with(1, 20, 20, 20, 20, 20, 20, 20), 0, 1, 1, 141);
        Due.by("Terms 5", "by some of k POINTS (1 to 5).");
        LongestMet x = with(1, 1);
        for (int k = 1; k <= 5; k++) {
            hitIs(x, 0, k, (1 << k) - 1, 1 << k);
            hitIs(with(7), 0, k, 1, 1);
        }
        hitIs(longest(), 7, 5, 15961, 32768);
        // 1 less 140 by 141 to the fifth
        hitIs(with(1, 20, 20, 20, 20, 20, 20, 20), 0, 5, 55730836701L - 53782400000L, 55730836701L);
    }

    private static void means() {
        Due.by("Terms 5", "MEAN of the LENGTH that is hit;");
        stickIs(with(1), 0, 1, 1, 1);
        stickIs(with(20), 0, 1, 20, 1);
        stickIs(longest(), 0, 1, 20, 1);
        stickIs(with(1, 3, 6), 0, 1, 23, 5);
        stickIs(with(1, 20), 0, 1, 401, 21);
        Due.by("Terms 5", "of how many PIECES k POINTS hit.");
        for (int k = 1; k <= 5; k++) {
            stickIs(with(7), 1, k, 1, 1);
            stickIs(with(1, 1), 1, k, (1 << k) - 1, 1 << k - 1);
        }
        stickIs(longest(), 1, 1, 1, 1);
        stickIs(longest(), 1, 5, 15961, 4096);
        Due.by("Terms 5", "ALL: the chance that k POINTS hit all PIECES. FRACTIONS.");
        for (int k = 1; k <= 5; k++) stickIs(with(20), 2, k, 1, 1);
        stickIs(with(1, 1), 2, 1, 0, 1);
        stickIs(with(1, 1), 2, 2, 1, 2);
        stickIs(with(1, 1, 1, 1, 1), 2, 4, 0, 1);
        // 120 by 3125
        stickIs(with(1, 1, 1, 1, 1), 2, 5, 24, 625);
        stickIs(with(1, 1, 1, 1, 1, 1), 2, 5, 0, 1);
        stickIs(longest(), 2, 5, 0, 1);
    }

    private static void promise30() {
        Due.by("Promise 30", "A PIECE more comes to the STICK: how many.");
        LongestMet x = new LongestMet();
        for (int n = 1; n <= 8; n++) Due.is("piece(" + n + ")", x.piece(n), n);
        Due.is("count(7)", x.count(7), 36);
        hitIs(x, 7, 1, 2, 9);
        Due.by("Promise 30", "BAD; FULL.");
        Refusal.bounds("piece(#)", 1, 20, (y, length) -> y.piece(length), BAD);
        Refusal.in(State.FILLED, "piece(1), the 9th", y -> y.piece(1), FULL);
        Refusal.in(State.FILLED, "piece(20), the 9th", y -> y.piece(20), FULL);
        Refusal.in(State.FILLED, "piece(0), the 9th: BAD first", y -> y.piece(0), BAD);
        Refusal.in(State.FILLED, "piece(21), the 9th: BAD first", y -> y.piece(21), BAD);
    }

    private static void promise31() {
        Due.by("Promise 31", "The STICK has no PIECES: how many it had.");
        for (int n = 0; n <= 8; n++) {
            LongestMet x = new LongestMet();
            for (int p = 0; p < n; p++) x.piece(20);
            Due.is("snap() of " + n, x.snap(), n);
            Due.is("count(7) behind it", x.count(7), 0);
            Due.is("snap() again", x.snap(), 0);
            Due.is("hit(0, 1, 0) behind it", x.hit(0, 1, 0), LONG_BAD);
            stickIs(x, 0, 1, LONG_NOT, LONG_NOT);
            Due.is("piece(3) behind it", x.piece(3), 1);
            Due.is("count(7) then", x.count(7), 3);
            hitIs(x, 0, 5, 1, 1);
        }
        LongestMet full = longest();
        full.piece(1);
        Due.is("snap() behind a refused one", full.snap(), 8);
    }

    private static void promise32() {
        Due.by("Promise 32", "HIT by some of k POINTS: above, below.");
        hitIs(with(1, 3, 6), 0, 2, 19, 100);
        hitIs(with(1, 3, 6), 2, 2, 21, 25);
        Due.by("Promise 32", "BAD. (A refusal -x is the least long and x more.)");
        Refusal.outside("hit(#, 1, 0)", 0, 7, (x, piece) -> x.hit(piece, 1, 0), LONG_BAD);
        Refusal.outside("hit(0, #, 0)", 1, 5, (x, k) -> x.hit(0, k, 0), LONG_BAD);
        Refusal.outside("hit(0, 1, #)", 0, 1, (x, what) -> x.hit(0, 1, what), LONG_BAD);
        for (int n = 0; n <= 1; n++) {
            int what = n;
            Refusal.in(State.NEW, "hit(0, 1, " + what + "), no PIECE", x -> x.hit(0, 1, what), LONG_BAD);
            Refusal.in(State.SOME, "hit(2, 1, " + what + "), two PIECES", x -> x.hit(2, 1, what), LONG_BAD);
            Refusal.asksOnly("hit(0, 5, " + what + ")", x -> x.hit(0, 5, what));
        }
        hitIs(State.SOME.make(), 1, 1, 8, 11);
        hitIs(State.FILLED.make(), 7, 5, 15961, 32768);
    }

    private static void promise33() {
        Due.by("Promise 33", "MEAN LENGTH that is hit (which = 0; k is 1, or it is BAD), how many PIECES k POINTS hit (1), ALL (2): above, below.");
        LongestMet x = with(1, 3, 6);
        stickIs(x, 0, 1, 23, 5);
        stickIs(x, 1, 1, 1, 1);
        stickIs(x, 1, 5, 2789, 1250);
        stickIs(x, 2, 1, 0, 1);
        stickIs(x, 2, 5, 1557, 5000);
        Refusal.bounds("stick(0, #, 0)", 1, 1, (y, k) -> y.stick(0, k, 0), LONG_BAD);
        Refusal.bounds("stick(0, #, 1)", 1, 1, (y, k) -> y.stick(0, k, 1), LONG_BAD);
        Due.by("Promise 33", "BAD; NOT: no PIECES. (A refusal -x is the least long and x more.)");
        Refusal.bounds("stick(#, 1, 0)", 0, 2, (y, which) -> y.stick(which, 1, 0), LONG_BAD);
        Refusal.bounds("stick(1, #, 0)", 1, 5, (y, k) -> y.stick(1, k, 0), LONG_BAD);
        Refusal.bounds("stick(2, #, 0)", 1, 5, (y, k) -> y.stick(2, k, 0), LONG_BAD);
        for (int n = 0; n < 6; n++) {
            int which = n / 2, what = n % 2;
            Refusal.bounds("stick(" + which + ", 1, #)", 0, 1, (y, w) -> y.stick(which, 1, w), LONG_BAD);
            Refusal.in(State.NEW, "stick(" + which + ", 1, " + what + ")", y -> y.stick(which, 1, what), LONG_NOT);
            Refusal.asksOnly("stick(" + which + ", 1, " + what + ")", y -> y.stick(which, 1, what));
        }
        for (int k = 1; k <= 5; k++) {
            stickIs(new LongestMet(), 1, k, LONG_NOT, LONG_NOT);
            stickIs(new LongestMet(), 2, k, LONG_NOT, LONG_NOT);
        }
    }
}
