/** Promises 25 to 29. */
public final class FriendsTest {
    private static final long BAD = Due.refused(LongestMet.BAD);
    private static final long NOT = Due.refused(LongestMet.NOT);

    public static void main(String[] args) {
        promise25Friends();
        promise26Mean();
        promise27Fewer();
        promise28Picked();
        promise29Best();
        Due.end();
    }

    /** Person 0 is a friend of each of 1 to 7. */
    private static LongestMet star() {
        LongestMet x = new LongestMet();
        for (int b = 1; b <= 7; b++) x.friends(0, b, 1);
        return x;
    }

    private static void promise25Friends() {
        LongestMet x = new LongestMet();
        for (int a = 0; a <= 7; a++) {
            for (int b = 0; b <= 7; b++) {
                int due = a == b ? LongestMet.BAD : b < a ? 1 : 0;
                Due.is("friends(" + a + ", " + b + ", 1)", x.friends(a, b, 1), due);
            }
        }
        Due.is("count(6), all", x.count(6), 28);
        Due.is("friends(3, 5, 0)", x.friends(3, 5, 0), 1);
        Due.is("friends(5, 3, 0)", x.friends(5, 3, 0), 0);
        Due.is("count(6)", x.count(6), 27);
        int[][] wrong = {{-1, 0, 1}, {0, -1, 1}, {8, 0, 1}, {0, 8, 1}, {0, 1, -1}, {0, 1, 2}, {2, 2, 0}};
        for (int[] w : wrong) {
            Due.is("friends(" + w[0] + ", " + w[1] + ", " + w[2] + ")", x.friends(w[0], w[1], w[2]), LongestMet.BAD);
        }
        Due.is("count(6) then", x.count(6), 27);
    }

    private static void promise26Mean() {
        LongestMet x = new LongestMet();
        meanIs(x, 0, 0, 1);
        meanIs(x, 1, NOT, NOT);
        meanIs(x, 2, 0, 1);
        // 14 by 8; 7 times 1 and 7 by 14; one picked is 0 in 7 of 8, has 7; or has 1
        LongestMet star = star();
        meanIs(star, 0, 7, 4);
        meanIs(star, 1, 4, 1);
        meanIs(star, 2, 25, 4);
        x.friends(0, 1, 1);
        meanIs(x, 0, 1, 4);
        meanIs(x, 1, 1, 1);
        meanIs(x, 2, 1, 4);
        meanIs(x, -1, BAD, BAD);
        meanIs(x, 3, BAD, BAD);
        Due.is("mean(0, -1)", x.mean(0, -1), BAD);
        Due.is("mean(0, 2)", x.mean(0, 2), BAD);
        Due.is("BAD ahead of NOT", new LongestMet().mean(1, 2), BAD);
    }

    private static void meanIs(LongestMet x, int which, long above, long below) {
        Due.is("mean(" + which + ", 0)", x.mean(which, 0), above);
        Due.is("mean(" + which + ", 1)", x.mean(which, 1), below);
    }

    private static void promise27Fewer() {
        LongestMet x = new LongestMet();
        Due.is("fewer, no friends", x.fewer(), 0);
        x.friends(0, 1, 1);
        Due.is("fewer, as many each", x.fewer(), 0);
        Due.is("fewer of a star", star().fewer(), 254);
        x.friends(1, 2, 1);
        Due.is("fewer of a path of three", x.fewer(), 5);
        x.friends(2, 3, 1);
        Due.is("fewer of a path of four", x.fewer(), 9);
        x.friends(7, 3, 1);
        Due.is("fewer of a path of five", x.fewer(), 129);
    }

    private static void promise28Picked() {
        LongestMet x = new LongestMet();
        for (int p = 0; p <= 7; p++) pickedIs(x, p, 1, 8);
        LongestMet star = star();
        pickedIs(star, 0, 7, 8);
        for (int p = 1; p <= 7; p++) pickedIs(star, p, 1, 56);
        // 1 - 0 - 2: 0 is picked from both, 1 and 2 by half
        x.friends(0, 1, 1);
        x.friends(0, 2, 1);
        pickedIs(x, 0, 1, 4);
        pickedIs(x, 1, 1, 16);
        pickedIs(x, 2, 1, 16);
        pickedIs(x, 3, 1, 8);
        pickedIs(x, -1, BAD, BAD);
        pickedIs(x, 8, BAD, BAD);
        Due.is("picked(0, -1)", x.picked(0, -1), BAD);
        Due.is("picked(0, 2)", x.picked(0, 2), BAD);
    }

    private static void pickedIs(LongestMet x, int person, long above, long below) {
        Due.is("picked(" + person + ", 0)", x.picked(person, 0), above);
        Due.is("picked(" + person + ", 1)", x.picked(person, 1), below);
    }

    private static void promise29Best() {
        LongestMet x = new LongestMet();
        for (int k = 1; k <= 8; k++) bestIs(x, k, (1 << k) - 1, 0);
        x.friends(6, 7, 1);
        bestIs(x, 1, 64, 1);
        bestIs(x, 2, 65, 1);
        x.friends(5, 7, 1);
        bestIs(x, 1, 128, 2);
        x.friends(3, 4, 1);
        bestIs(x, 1, 128, 2);
        bestIs(x, 2, 136, 3);
        // two with three friends each, friends of one another, are less than two apart
        LongestMet y = new LongestMet();
        int[][] pairs = {{0, 1}, {0, 2}, {0, 3}, {1, 4}, {1, 5}, {6, 4}, {6, 5}, {6, 7}};
        for (int[] p : pairs) y.friends(p[0], p[1], 1);
        bestIs(y, 2, 65, 6);
        bestIs(y, 8, 255, 8);
        int[][] wrong = {{0, 0}, {9, 0}, {1, -1}, {1, 2}};
        for (int[] w : wrong) Due.is("best(" + w[0] + ", " + w[1] + ")", x.best(w[0], w[1]), LongestMet.BAD);
    }

    private static void bestIs(LongestMet x, int k, int group, int friendships) {
        Due.is("best(" + k + ", 0)", x.best(k, 0), group);
        Due.is("best(" + k + ", 1)", x.best(k, 1), friendships);
    }
}
