/** Promises 20 to 24. */
public final class WardsTest {
    private static final long BAD = Due.refused(LongestMet.BAD);
    private static final long NOT = Due.refused(LongestMet.NOT);

    public static void main(String[] args) {
        promise20Stay();
        promise21Leaves();
        promise22Ward();
        promise23Means();
        promise23HarmonicOfAllLengths();
        promise24Fullest();
        promise24Apart();
        Due.end();
    }

    private static void promise20Stay() {
        LongestMet x = new LongestMet();
        int[][] wrong = {{-1, 0}, {0, -1}, {100, 100}, {99, 100}, {5, 4}, {0, 20}, {80, 100}, {Integer.MIN_VALUE, 0},
            {0, Integer.MAX_VALUE}, {Integer.MAX_VALUE, Integer.MAX_VALUE}};
        for (int[] w : wrong) Due.is("stay(" + w[0] + ", " + w[1] + ")", x.stay(w[0], w[1]), LongestMet.BAD);
        Due.is("count(5)", x.count(5), 0);
        Due.is("stay(0, 0)", x.stay(0, 0), 0);
        Due.is("stay(0, 19)", x.stay(0, 19), 1);
        Due.is("stay(80, 99)", x.stay(80, 99), 2);
        Due.is("stay(99, 99)", x.stay(99, 99), 3);
        for (int number = 4; number < 24; number++) Due.is("stay, number " + number, x.stay(3, 3), number);
        Due.is("stay, the 25th", x.stay(3, 3), LongestMet.FULL);
        Due.is("stay(3, 2), full", x.stay(3, 2), LongestMet.BAD);
        Due.is("count(5), full", x.count(5), 24);
    }

    private static void promise21Leaves() {
        LongestMet x = new LongestMet();
        Due.is("leaves(0, 0), none there", x.leaves(0, 0), LongestMet.BAD);
        x.stay(10, 12);
        x.stay(90, 95);
        Due.is("leaves(0, 29)", x.leaves(0, 29), 12);
        Due.is("leaves(0, 30)", x.leaves(0, 30), LongestMet.BAD);
        Due.is("leaves(0, 9)", x.leaves(0, 9), LongestMet.BAD);
        Due.is("leaves(0, 10)", x.leaves(0, 10), 29);
        Due.is("leaves(0, 10) again", x.leaves(0, 10), 10);
        Due.is("leaves(1, 99)", x.leaves(1, 99), 95);
        Due.is("leaves(1, 100)", x.leaves(1, 100), LongestMet.BAD);
        Due.is("leaves(-1, 10)", x.leaves(-1, 10), LongestMet.BAD);
        Due.is("leaves(2, 10)", x.leaves(2, 10), LongestMet.BAD);
        Due.is("leaves(0, -1)", x.leaves(0, -1), LongestMet.BAD);
        Due.is("beds then", x.ward(0, 99, 2), 11);
    }

    private static void promise22Ward() {
        LongestMet x = new LongestMet();
        wardIs(x, 0, 99, 0, 0, 0, LongestMet.NOT);
        x.stay(5, 14);
        x.stay(10, 10);
        x.stay(20, 24);
        wardIs(x, 0, 99, 3, 3, 16, 1);
        wardIs(x, 10, 20, 2, 3, 7, 0);
        wardIs(x, 6, 9, 0, 1, 4, LongestMet.NOT);
        wardIs(x, 10, 10, 1, 2, 2, 0);
        wardIs(x, 14, 14, 0, 1, 1, LongestMet.NOT);
        wardIs(x, 15, 19, 0, 0, 0, LongestMet.NOT);
        wardIs(x, 24, 99, 0, 1, 1, LongestMet.NOT);
        wardIs(x, 25, 99, 0, 0, 0, LongestMet.NOT);
        wardIs(x, 5, 14, 2, 2, 11, 1);
        // as many days come in from ahead as go out behind
        x.stay(3, 5);
        x.stay(14, 15);
        wardIs(x, 5, 14, 3, 4, 13, 1);
        int[][] wrong = {{-1, 0, 0}, {0, 100, 0}, {5, 4, 0}, {100, 100, 0}, {0, 0, -1}, {0, 0, 4}, {99, 98, 3}};
        for (int[] w : wrong) {
            Due.is("ward(" + w[0] + ", " + w[1] + ", " + w[2] + ")", x.ward(w[0], w[1], w[2]), LongestMet.BAD);
        }
    }

    private static void wardIs(LongestMet x, int from, int to, int... due) {
        for (int what = 0; what <= 3; what++) {
            Due.is("ward(" + from + ", " + to + ", " + what + ")", x.ward(from, to, what), due[what]);
        }
    }

    private static void promise23Means() {
        LongestMet x = new LongestMet();
        meansAre(x, 0, 9, NOT, NOT, NOT, NOT, NOT, NOT, NOT, NOT, 0, 1, 0, 1);
        x.stay(5, 14);
        x.stay(10, 10);
        x.stay(20, 24);
        meansAre(x, 0, 99, 16, 3, 16, 3, 63, 8, 16, 3, 3, 100, 4, 25);
        // 5 days of 10, 1 of 1, 1 of 5; harmonic: 7 by 1/2 + 1 + 1/5
        meansAre(x, 10, 20, 3, 1, 16, 3, 8, 1, 70, 17, 2, 11, 7, 11);
        meansAre(x, 6, 9, NOT, NOT, 10, 1, 10, 1, 10, 1, 0, 1, 1, 1);
        meansAre(x, 15, 19, NOT, NOT, NOT, NOT, NOT, NOT, NOT, NOT, 0, 1, 0, 1);
        int[][] wrong = {{-1, 0, 0, 0}, {0, 100, 0, 0}, {5, 4, 0, 0}, {0, 0, -1, 0}, {0, 0, 6, 0}, {0, 0, 0, -1}, {15, 19, 0, 2}};
        for (int[] w : wrong) {
            Due.is("means(" + w[0] + ", " + w[1] + ", " + w[2] + ", " + w[3] + ")", x.means(w[0], w[1], w[2], w[3]), BAD);
        }
    }

    private static void meansAre(LongestMet x, int from, int to, long... due) {
        for (int which = 0; which <= 5; which++) {
            for (int what = 0; what <= 1; what++) {
                Due.is("means(" + from + ", " + to + ", " + which + ", " + what + ")", x.means(from, to, which, what), due[2 * which + what]);
            }
        }
    }

    private static void promise23HarmonicOfAllLengths() {
        LongestMet x = new LongestMet();
        for (int length = 1; length <= 20; length++) x.stay(40, 39 + length);
        // on day 40: 20 by 1 + 1/2 + .. + 1/20
        Due.is("harmonic, above", x.means(40, 40, 3, 0), 62078016);
        Due.is("harmonic, below", x.means(40, 40, 3, 1), 11167027);
        Due.is("harmonic of whole stays, above", x.means(0, 99, 3, 0), 21);
        Due.is("harmonic of whole stays, below", x.means(0, 99, 3, 1), 2);
    }

    private static void promise24Fullest() {
        LongestMet x = new LongestMet();
        fullestIs(x, 0, 0, 0);
        x.stay(98, 99);
        fullestIs(x, 98, 1, 1);
        x.stay(99, 99);
        fullestIs(x, 99, 2, 1);
        x.stay(50, 60);
        x.stay(60, 70);
        fullestIs(x, 60, 2, 2);
        x.stay(0, 0);
        x.stay(0, 0);
        x.stay(0, 0);
        fullestIs(x, 0, 3, 3);
        Due.is("fullest(-1)", x.fullest(-1), LongestMet.BAD);
        Due.is("fullest(3)", x.fullest(3), LongestMet.BAD);
    }

    private static void fullestIs(LongestMet x, int day, int most, int apart) {
        Due.is("fullest(0)", x.fullest(0), day);
        Due.is("fullest(1)", x.fullest(1), most);
        Due.is("fullest(2)", x.fullest(2), apart);
    }

    private static void promise24Apart() {
        LongestMet x = new LongestMet();
        // one that lies over the borders of two, in an order that misleads who takes them as told
        x.stay(4, 6);
        x.stay(0, 5);
        x.stay(6, 11);
        Due.is("apart, two by the borders of one", x.fullest(2), 2);
        // the shortest one must not be taken
        LongestMet y = new LongestMet();
        y.stay(0, 10);
        y.stay(10, 12);
        y.stay(12, 22);
        Due.is("apart, not the shortest", y.fullest(2), 2);
        y.leaves(0, 9);
        Due.is("apart, a day less", y.fullest(2), 2);
        y.leaves(1, 11);
        Due.is("apart, two days less", y.fullest(2), 3);
        LongestMet z = new LongestMet();
        for (int i = 0; i < 24; i++) z.stay(4 * i, 4 * i + 3);
        Due.is("apart, all 24", z.fullest(2), 24);
    }
}
