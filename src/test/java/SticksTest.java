/** Promises 30 to 33. */
public final class SticksTest {
    private static final long BAD = Due.refused(LongestMet.BAD);
    private static final long NOT = Due.refused(LongestMet.NOT);

    public static void main(String[] args) {
        promise30Piece();
        promise31Snap();
        promise32Hit();
        promise33Stick();
        promise33StickOfMost();
        Due.end();
    }

    private static LongestMet stick(int... lengths) {
        LongestMet x = new LongestMet();
        for (int length : lengths) x.piece(length);
        return x;
    }

    private static void promise30Piece() {
        LongestMet x = new LongestMet();
        Due.is("piece(0)", x.piece(0), LongestMet.BAD);
        Due.is("piece(21)", x.piece(21), LongestMet.BAD);
        Due.is("piece(-1)", x.piece(-1), LongestMet.BAD);
        Due.is("piece(1)", x.piece(1), 1);
        Due.is("piece(20)", x.piece(20), 2);
        for (int n = 3; n <= 8; n++) Due.is("piece, the " + n + "th", x.piece(n), n);
        Due.is("piece, the 9th", x.piece(1), LongestMet.FULL);
        Due.is("piece(21), full", x.piece(21), LongestMet.BAD);
        Due.is("count(7)", x.count(7), 54);
    }

    private static void promise31Snap() {
        LongestMet x = stick(3, 4, 5);
        Due.is("snap", x.snap(), 3);
        Due.is("snap again", x.snap(), 0);
        Due.is("count(7)", x.count(7), 0);
        Due.is("stick(0, 1, 0)", x.stick(0, 1, 0), NOT);
        Due.is("piece behind snap", x.piece(2), 1);
        Due.is("count(7)", x.count(7), 2);
    }

    private static void promise32Hit() {
        LongestMet x = stick(1, 3, 6);
        hitIs(x, 0, 1, 1, 10);
        hitIs(x, 1, 1, 3, 10);
        hitIs(x, 2, 1, 3, 5);
        hitIs(x, 0, 2, 19, 100);
        hitIs(x, 1, 2, 51, 100);
        hitIs(x, 2, 2, 21, 25);
        hitIs(x, 2, 5, 3093, 3125);
        hitIs(stick(7), 0, 1, 1, 1);
        hitIs(stick(7), 0, 5, 1, 1);
        // 1 less 159 by 160 to the fifth
        hitIs(stick(20, 20, 20, 20, 20, 20, 20, 20), 7, 5, 15961, 32768);
        int[][] wrong = {{-1, 1, 0}, {3, 1, 0}, {0, 0, 0}, {0, 6, 0}, {0, 1, -1}, {0, 1, 2}};
        for (int[] w : wrong) Due.is("hit(" + w[0] + ", " + w[1] + ", " + w[2] + ")", x.hit(w[0], w[1], w[2]), BAD);
        Due.is("hit(0, 1, 0) of no piece", new LongestMet().hit(0, 1, 0), BAD);
        x.snap();
        Due.is("hit(0, 1, 0) behind snap", x.hit(0, 1, 0), BAD);
    }

    private static void hitIs(LongestMet x, int piece, int k, long above, long below) {
        Due.is("hit(" + piece + ", " + k + ", 0)", x.hit(piece, k, 0), above);
        Due.is("hit(" + piece + ", " + k + ", 1)", x.hit(piece, k, 1), below);
    }

    private static void promise33Stick() {
        LongestMet none = new LongestMet();
        for (int which = 0; which <= 2; which++) stickIs(none, which, 1, NOT, NOT);
        for (int k = 1; k <= 5; k++) {
            stickIs(none, 1, k, NOT, NOT);
            stickIs(none, 2, k, NOT, NOT);
        }
        LongestMet x = stick(1, 3, 6);
        stickIs(x, 0, 1, 23, 5);
        stickIs(x, 1, 1, 1, 1);
        stickIs(x, 1, 2, 77, 50);
        stickIs(x, 2, 2, 0, 1);
        stickIs(x, 2, 3, 27, 250);
        stickIs(x, 2, 4, 27, 125);
        LongestMet two = stick(5, 5);
        stickIs(two, 0, 1, 5, 1);
        stickIs(two, 1, 2, 3, 2);
        stickIs(two, 2, 1, 0, 1);
        stickIs(two, 2, 2, 1, 2);
        stickIs(two, 2, 5, 15, 16);
        stickIs(stick(9), 2, 1, 1, 1);
        int[][] wrong = {{-1, 1, 0}, {3, 1, 0}, {1, 0, 0}, {2, 0, 0}, {1, 6, 0}, {2, 6, 0}, {0, 0, 0}, {0, 2, 0}, {0, 5, 1}, {0, 1, -1},
            {1, 1, 2}};
        for (int[] w : wrong) {
            Due.is("stick(" + w[0] + ", " + w[1] + ", " + w[2] + ")", x.stick(w[0], w[1], w[2]), BAD);
            Due.is("stick of none (" + w[0] + ", " + w[1] + ", " + w[2] + ")", none.stick(w[0], w[1], w[2]), BAD);
        }
    }

    private static void promise33StickOfMost() {
        LongestMet five = stick(20, 20, 20, 20, 20);
        stickIs(five, 2, 5, 24, 625);
        stickIs(five, 2, 4, 0, 1);
        LongestMet eight = stick(20, 20, 20, 20, 20, 20, 20, 20);
        stickIs(eight, 0, 1, 20, 1);
        stickIs(eight, 1, 5, 15961, 4096);
        stickIs(eight, 2, 5, 0, 1);
    }

    private static void stickIs(LongestMet x, int which, int k, long above, long below) {
        Due.is("stick(" + which + ", " + k + ", 0)", x.stick(which, k, 0), above);
        Due.is("stick(" + which + ", " + k + ", 1)", x.stick(which, k, 1), below);
    }
}
