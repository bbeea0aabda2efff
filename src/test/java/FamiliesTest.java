/** Promises 10 to 19. */
public final class FamiliesTest {
    private static final long BAD = Due.refused(LongestMet.BAD);
    private static final long NOT = Due.refused(LongestMet.NOT);
    private static final long FULL = Due.refused(LongestMet.FULL);

    public static void main(String[] args) {
        promise10Asked();
        promise11Read();
        promise11ReadStops();
        promise12TakeBack();
        promise13AsOf();
        promise14Said();
        promise15Share();
        promise16Size();
        promise17Families();
        promise18Chance();
        promise18ChanceOfMany();
        promise19Likeliest();
        promise19LikeliestOfClose();
        Due.end();
    }

    private static void answers(LongestMet x, int... sizes) {
        for (int n : sizes) x.asked(n, 0);
    }

    private static void promise10Asked() {
        LongestMet x = new LongestMet();
        Due.is("asked(0, 0)", x.asked(0, 0), LongestMet.BAD);
        Due.is("asked(9, 0)", x.asked(9, 0), LongestMet.BAD);
        Due.is("asked(1, -1)", x.asked(1, -1), LongestMet.BAD);
        Due.is("asked(1, 1000)", x.asked(1, 1000), LongestMet.BAD);
        Due.is("asked(1, 0)", x.asked(1, 0), 0);
        Due.is("asked(8, 5)", x.asked(8, 5), 1);
        Due.is("asked(8, 4)", x.asked(8, 4), LongestMet.BAD);
        Due.is("asked(8, 5)", x.asked(8, 5), 2);
        x.takeBack(0, 7);
        Due.is("asked(2, 6), ahead of taking back", x.asked(2, 6), LongestMet.BAD);
        for (int number = 3; number < 40; number++) Due.is("asked, number " + number, x.asked(2, 999), number);
        Due.is("asked, the 41st", x.asked(2, 999), LongestMet.FULL);
        Due.is("asked(9, 999), full", x.asked(9, 999), LongestMet.BAD);
        Due.is("asked(2, 998), full", x.asked(2, 998), LongestMet.BAD);
        Due.is("count(3)", x.count(3), 40);
        Due.is("count(4), one taken back", x.count(4), 39);
        Due.is("said(2), full", x.said(2), 37);
    }

    private static void promise11Read() {
        LongestMet x = new LongestMet();
        Due.is("read, lost", x.read(0, 0), -11);
        Due.is("count(8)", x.count(8), 1);
        Due.is("read(-1, 0)", x.read(-1, 0), LongestMet.BAD);
        Due.is("read(4, 0)", x.read(4, 0), LongestMet.BAD);
        Due.is("read(0, -1), lost", x.read(0, -1), LongestMet.BAD);
        Due.is("read(0, 1000), lost", x.read(0, 1000), LongestMet.BAD);
        for (int form = 0; form <= 2; form++) {
            x.sheet(form, form, 3);
            for (int i = 0; i < 3; i++) x.put(form, form, i, form + i + 1);
            Due.is("read(" + form + ", 10)", x.read(form, 10 + form), 3);
        }
        for (int n = 1; n <= 5; n++) Due.is("said(" + n + ")", x.said(n), n <= 3 ? n : 6 - n);
        Due.is("read(0, 11), ahead of the one before", x.read(0, 11), LongestMet.BAD);
        Due.is("read(3, 11), lost", x.read(3, 11), LongestMet.BAD);
        Due.is("read(0, 12)", x.read(0, 12), 3);
        Due.is("count(3)", x.count(3), 12);
    }

    private static void promise11ReadStops() {
        LongestMet x = new LongestMet();
        x.sheet(0, 2, 60);
        Due.is("read of items 0", x.read(0, 500), 0);
        Due.is("time goes on by none", x.asked(1, 3), 0);
        x.put(0, 2, 0, 4);
        x.put(0, 2, 1, 9);
        x.put(0, 2, 2, 5);
        Due.is("read up to 9", x.read(0, 3), 1);
        x.put(0, 2, 1, -3);
        Due.is("read up to -3", x.read(0, 3), 1);
        for (int i = 0; i < 60; i++) x.put(0, 2, i, 8);
        Due.is("read up to 40", x.read(0, 3), 37);
        Due.is("read of a full one", x.read(0, 3), 0);
        Due.is("count(3)", x.count(3), 40);
        x.sheet(1, 0, 0);
        Due.is("read of no items", x.read(1, 4), 0);
        Due.is("said(8)", x.said(8), 37);
        // of a row that was longer no item is left
        LongestMet y = new LongestMet();
        y.sheet(0, 0, 9);
        for (int i = 0; i < 9; i++) y.put(0, 0, i, 8);
        y.sheet(0, 0, 2);
        y.put(0, 0, 0, 7);
        y.put(0, 0, 1, 7);
        Due.is("read of a shorter row", y.read(0, 0), 2);
        Due.is("count(3) behind it", y.count(3), 2);
    }

    private static void promise12TakeBack() {
        LongestMet x = new LongestMet();
        Due.is("takeBack(0, 0), none there", x.takeBack(0, 0), LongestMet.BAD);
        x.asked(3, 5);
        x.asked(3, 5);
        x.asked(4, 6);
        Due.is("takeBack(-1, 9)", x.takeBack(-1, 9), LongestMet.BAD);
        Due.is("takeBack(3, 9)", x.takeBack(3, 9), LongestMet.BAD);
        Due.is("takeBack(0, 5), ahead of the one before", x.takeBack(0, 5), LongestMet.BAD);
        Due.is("takeBack(0, 1000)", x.takeBack(0, 1000), LongestMet.BAD);
        Due.is("takeBack(0, 6)", x.takeBack(0, 6), 1);
        Due.is("takeBack(0, 5) again", x.takeBack(0, 5), LongestMet.BAD);
        Due.is("takeBack(0, 9) again", x.takeBack(0, 9), LongestMet.NOT);
        Due.is("time goes not on by a refusal", x.takeBack(2, 6), 1);
        Due.is("said(3)", x.said(3), 1);
        Due.is("said(4)", x.said(4), 0);
        Due.is("count(3)", x.count(3), 3);
        Due.is("count(4)", x.count(4), 1);
        Due.is("takeBack(1, 999)", x.takeBack(1, 999), 1);
        Due.is("count(4)", x.count(4), 0);
        x.asOf(6);
        Due.is("count(4) as of 6", x.count(4), 1);
        Due.is("takeBack(1, 999), already", x.takeBack(1, 999), LongestMet.NOT);
        Due.is("asked(1, 998) behind it", x.asked(1, 998), LongestMet.BAD);
    }

    private static void promise13AsOf() {
        LongestMet x = new LongestMet();
        Due.is("asOf(-1)", x.asOf(-1), LongestMet.BAD);
        Due.is("asOf(1000)", x.asOf(1000), LongestMet.BAD);
        Due.is("asOf(0)", x.asOf(0), 999);
        Due.is("asOf(999)", x.asOf(999), 0);
        x.asked(2, 0);
        x.asked(2, 10);
        x.takeBack(0, 20);
        x.asked(2, 999);
        int[] times = {0, 9, 10, 19, 20, 998, 999};
        int[] counts = {1, 1, 2, 2, 1, 1, 2};
        int was = 999;
        for (int i = 0; i < times.length; i++) {
            Due.is("asOf(" + times[i] + ")", x.asOf(times[i]), was);
            Due.is("count(4) as of " + times[i], x.count(4), counts[i]);
            Due.is("said(2) as of " + times[i], x.said(2), counts[i]);
            was = times[i];
        }
    }

    private static void promise14Said() {
        LongestMet x = new LongestMet();
        Due.is("said(0)", x.said(0), LongestMet.BAD);
        Due.is("said(9)", x.said(9), LongestMet.BAD);
        answers(x, 1, 8, 8, 3);
        int[] said = {1, 0, 1, 0, 0, 0, 0, 2};
        for (int n = 1; n <= 8; n++) Due.is("said(" + n + ")", x.said(n), said[n - 1]);
    }

    private static void promise15Share() {
        LongestMet x = new LongestMet();
        shareIs(x, 1, 0, NOT, NOT);
        shareIs(x, 1, 1, NOT, NOT);
        answers(x, 2, 2, 6, 6);
        shareIs(x, 2, 0, 1, 2);
        shareIs(x, 6, 0, 1, 2);
        shareIs(x, 2, 1, 3, 4);
        shareIs(x, 6, 1, 1, 4);
        shareIs(x, 8, 1, 0, 1);
        shareIs(x, 8, 0, 0, 1);
        x.takeBack(3, 1);
        shareIs(x, 2, 0, 2, 3);
        shareIs(x, 2, 1, 6, 7);
        shareIs(x, 0, 0, BAD, BAD);
        shareIs(x, 9, 1, BAD, BAD);
        shareIs(x, 1, -1, BAD, BAD);
        shareIs(x, 1, 2, BAD, BAD);
        Due.is("share(1, 0, 2)", x.share(1, 0, 2), BAD);
        Due.is("share(1, 0, -1)", x.share(1, 0, -1), BAD);
        Due.is("BAD ahead of NOT", new LongestMet().share(0, 0, 0), BAD);
        for (int n = 1; n <= 8; n++) {
            LongestMet alone = new LongestMet();
            answers(alone, n);
            shareIs(alone, n, 1, 1, 1);
        }
    }

    private static void shareIs(LongestMet x, int n, int of, long above, long below) {
        Due.is("share(" + n + ", " + of + ", 0)", x.share(n, of, 0), above);
        Due.is("share(" + n + ", " + of + ", 1)", x.share(n, of, 1), below);
    }

    private static void promise16Size() {
        LongestMet x = new LongestMet();
        sizeIs(x, 0, NOT, NOT);
        sizeIs(x, 1, NOT, NOT);
        answers(x, 1, 4);
        sizeIs(x, 0, 5, 2);
        sizeIs(x, 1, 8, 5);
        answers(x, 1, 2, 3, 4, 5, 6, 7, 8);
        sizeIs(x, 0, 41, 10);
        // 10 by 1 + 1/4 + 761/280
        sizeIs(x, 1, 2800, 1111);
        sizeIs(x, -1, BAD, BAD);
        sizeIs(x, 2, BAD, BAD);
        Due.is("size(0, -1)", x.size(0, -1), BAD);
        Due.is("size(0, 2)", x.size(0, 2), BAD);
        Due.is("BAD ahead of NOT", new LongestMet().size(2, 0), BAD);
    }

    private static void sizeIs(LongestMet x, int of, long above, long below) {
        Due.is("size(" + of + ", 0)", x.size(of, 0), above);
        Due.is("size(" + of + ", 1)", x.size(of, 1), below);
    }

    private static void promise17Families() {
        LongestMet x = new LongestMet();
        for (int town = 0; town <= 3; town++) {
            for (int n = 1; n <= 8; n++) {
                Due.is("families(" + town + ", " + n + ", 9)", x.families(town, n, 9), 0);
                Due.is("families(" + town + ", " + n + ", v)", x.families(town, n, town + n % 5), 9);
            }
        }
        for (int town = 0; town <= 3; town++) {
            for (int n = 1; n <= 8; n++) Due.is("families kept", x.families(town, n, 0), town + n % 5);
        }
        Due.is("families(-1, 1, 1)", x.families(-1, 1, 1), LongestMet.BAD);
        Due.is("families(4, 1, 1)", x.families(4, 1, 1), LongestMet.BAD);
        Due.is("families(0, 0, 1)", x.families(0, 0, 1), LongestMet.BAD);
        Due.is("families(0, 9, 1)", x.families(0, 9, 1), LongestMet.BAD);
        Due.is("families(0, 1, -1)", x.families(0, 1, -1), LongestMet.BAD);
        Due.is("families(0, 1, 10)", x.families(0, 1, 10), LongestMet.BAD);
    }

    private static void promise18Chance() {
        LongestMet x = new LongestMet();
        for (int town = 0; town <= 3; town++) chanceIs(x, town, 1, 1);
        x.families(1, 2, 1);
        answers(x, 2, 1);
        chanceIs(x, 0, NOT, NOT);
        chanceIs(x, 1, 0, 1);
        x.families(1, 1, 2);
        // of 4 children, 2 say 1, 2 say 2: 4 of 6 pairs
        chanceIs(x, 1, 2, 3);
        x.takeBack(1, 1);
        chanceIs(x, 1, 1, 2);
        chanceIs(x, -1, BAD, BAD);
        chanceIs(x, 4, BAD, BAD);
        Due.is("chance(1, -1)", x.chance(1, -1), BAD);
        Due.is("chance(1, 2)", x.chance(1, 2), BAD);
    }

    private static void promise18ChanceOfMany() {
        LongestMet x = new LongestMet();
        for (int n = 1; n <= 8; n++) x.families(0, n, 9);
        answers(x, 1, 2, 3, 4, 5, 6, 7, 8);
        // 8! times 9^8 by 324 over 8, lowest
        chanceIs(x, 0, 2678462640L, 4260297731657L);
        x.asked(8, 0);
        chanceIs(x, 0, FULL, FULL);
        chanceIs(x, 1, FULL, FULL);
        chanceIs(x, 4, BAD, BAD);
        x.takeBack(8, 0);
        chanceIs(x, 1, NOT, NOT);
        x.families(1, 8, 1);
        chanceIs(x, 1, 0, 1);
    }

    private static void chanceIs(LongestMet x, int town, long above, long below) {
        Due.is("chance(" + town + ", 0)", x.chance(town, 0), above);
        Due.is("chance(" + town + ", 1)", x.chance(town, 1), below);
    }

    private static void promise19Likeliest() {
        LongestMet x = new LongestMet();
        Due.is("likeliest, none count", x.likeliest(), 0);
        answers(x, 1, 2);
        Due.is("likeliest, all have fewer", x.likeliest(), LongestMet.NONE);
        x.families(3, 3, 1);
        Due.is("likeliest, all have 0", x.likeliest(), LongestMet.NONE);
        x.families(2, 1, 1);
        x.families(2, 2, 2);
        Due.is("likeliest, one alone", x.likeliest(), 2);
        x.families(1, 1, 1);
        x.families(1, 2, 1);
        Due.is("likeliest, 2/3 and 2/5", x.likeliest(), 1);
        x.families(3, 3, 0);
        x.families(3, 1, 1);
        x.families(3, 2, 1);
        Due.is("likeliest, of like ones the least", x.likeliest(), 1);
        x.families(1, 8, 1);
        Due.is("likeliest, then", x.likeliest(), 3);
        for (int i = 0; i < 7; i++) x.asked(1, 0);
        Due.is("likeliest of 9", x.likeliest(), LongestMet.FULL);
    }

    /** Two chances whose cross products go beyond the longs. */
    private static void promise19LikeliestOfClose() {
        LongestMet x = new LongestMet();
        answers(x, 1, 2, 3, 4, 5, 6, 7, 8);
        for (int n = 1; n <= 8; n++) {
            for (int town = 0; town <= 3; town++) x.families(town, n, 9);
        }
        Due.is("likeliest of four alike", x.likeliest(), 0);
        x.families(2, 8, 8);
        x.families(3, 7, 8);
        x.families(0, 1, 8);
        long[] most = {0, 1};
        int likeliest = -1;
        for (int town = 0; town <= 3; town++) {
            java.math.BigInteger left = product(x.chance(town, 0), most[1]);
            if (left.compareTo(product(most[0], x.chance(town, 1))) <= 0) continue;
            likeliest = town;
            most = new long[] {x.chance(town, 0), x.chance(town, 1)};
        }
        Due.is("likeliest of close ones", x.likeliest(), likeliest);
    }

    private static java.math.BigInteger product(long a, long b) {
        return java.math.BigInteger.valueOf(a).multiply(java.math.BigInteger.valueOf(b));
    }
}
