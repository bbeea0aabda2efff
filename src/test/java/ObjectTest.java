/** Promises 1, 40 and 41. */
public final class ObjectTest {
    public static void main(String[] args) {
        promise1NewObject();
        promise40Count();
        promise40LatestFinding();
        promise41Digest();
        promise41DigestSeesEachPart();
        twoObjectsAreApart();
        Due.end();
    }

    private static void promise1NewObject() {
        LongestMet x = new LongestMet();
        for (int what = 0; what <= 8; what++) Due.is("count(" + what + ") at first", x.count(what), 0);
        Due.is("wipe at first", new LongestMet().wipe(), 0);
        Due.is("snap at first", new LongestMet().snap(), 0);
        Due.is("asOf at first", new LongestMet().asOf(5), 999);
        for (int who = 0; who <= 2; who++) Due.is("waits at first", x.waits(who, 0), LongestMet.NOT);
        for (int n = 1; n <= 8; n++) {
            Due.is("said at first", x.said(n), 0);
            for (int town = 0; town <= 3; town++) Due.is("families at first", x.families(town, n, 0), 0);
        }
        for (int a = 0; a <= 7; a++) {
            for (int b = a + 1; b <= 7; b++) Due.is("friends at first", x.friends(a, b, 0), 0);
        }
        for (int s = 0; s <= 3; s++) Due.is("lost at first", x.lose(s), -11);
    }

    private static LongestMet full() {
        LongestMet x = new LongestMet();
        Due.line(x, 0, "0,5,30");
        Due.line(x, 1, "12+20,59");
        Due.text(x, "5+7,");
        x.asked(4, 1);
        x.asked(2, 2);
        x.asked(2, 2);
        x.takeBack(1, 3);
        x.families(1, 4, 1);
        x.families(1, 2, 3);
        x.stay(5, 14);
        x.stay(12, 12);
        x.stay(28, 40);
        x.friends(0, 1, 1);
        x.friends(1, 2, 1);
        x.piece(3);
        x.piece(8);
        return x;
    }

    private static void promise40Count() {
        LongestMet x = full();
        int[] due = {3, 4, 4, 3, 2, 3, 2, 11, 0};
        for (int what = 0; what <= 8; what++) Due.is("count(" + what + ")", x.count(what), due[what]);
        Due.is("count(-1)", x.count(-1), LongestMet.BAD);
        Due.is("count(9)", x.count(9), LongestMet.BAD);
        Due.is("count of the most", x.count(Integer.MAX_VALUE), LongestMet.BAD);
    }

    private static void promise40LatestFinding() {
        LongestMet x = new LongestMet();
        x.sheet(1, 0, 1);
        x.sheet(2, 1, 1);
        x.lose(0);
        Due.is("count(8) of lose", x.count(8), 1);
        x.put(1, 0, 1, 0);
        Due.is("count(8) of put", x.count(8), 2);
        x.get(1, 1, 0);
        Due.is("count(8) of get", x.count(8), 3);
        x.copy(1, 0, 2, 0, 1);
        Due.is("count(8) of copy", x.count(8), 4);
        x.sheet(1, 0, -1);
        Due.is("count(8) of sheet", x.count(8), 5);
        x.read(3, 0);
        Due.is("count(8) of read", x.count(8), 1);
        x.sheet(1, 0, -1);
        x.write(0, 3);
        Due.is("count(8) of write", x.count(8), 1);
        x.get(1, 0, 0);
        x.lose(9);
        Due.is("count(8) stays", x.count(8), 1);
    }

    private static void promise41Digest() {
        digestIs("a new one", new LongestMet());
        digestIs("a full one", full());
        LongestMet many = full();
        for (int i = 0; i < 10; i++) many.asked(8, 9);
        Due.is("likeliest", many.likeliest(), LongestMet.FULL);
        Due.line(many, 1, "0+2");
        digestIs("one of many", many);
    }

    /** What the document tells, row by row. */
    private static void digestIs(String name, LongestMet x) {
        long h = 17;
        for (int what = 0; what <= 7; what++) h = 31 * h + x.count(what);
        h = 31 * h + x.fault();
        for (int who = 0; who <= 2; who++) {
            for (int which = 0; which <= 2; which++) h = 31 * (31 * h + x.gaps(who, which, 0)) + x.gaps(who, which, 1);
        }
        h = 31 * h + x.held(0, 2, LongestMet.NONE);
        h = 31 * h + x.held(1, 2, LongestMet.NONE);
        for (int of = 0; of <= 1; of++) h = 31 * (31 * h + x.size(of, 0)) + x.size(of, 1);
        h = 31 * h + x.likeliest();
        for (int what = 0; what <= 3; what++) h = 31 * h + x.ward(10, 30, what);
        for (int which = 0; which <= 5; which++) h = 31 * (31 * h + x.means(10, 30, which, 0)) + x.means(10, 30, which, 1);
        for (int what = 0; what <= 2; what++) h = 31 * h + x.fullest(what);
        for (int which = 0; which <= 2; which++) h = 31 * (31 * h + x.mean(which, 0)) + x.mean(which, 1);
        h = 31 * (31 * h + x.fewer()) + x.best(2, 0);
        for (int which = 0; which <= 2; which++) h = 31 * (31 * h + x.stick(which, 1, 0)) + x.stick(which, 1, 1);
        Due.is("digest of " + name, x.digest(), h);
        Due.is("digest of " + name + " again", x.digest(), h);
    }

    private static void promise41DigestSeesEachPart() {
        long before = full().digest();
        LongestMet[] others = new LongestMet[9];
        for (int i = 0; i < others.length; i++) others[i] = full();
        others[0].type('1');
        Due.line(others[1], 0, "0,5,31");
        Due.line(others[2], 1, "12+20,58");
        others[3].asked(3, 9);
        others[4].families(0, 4, 1);
        others[4].families(0, 2, 1);
        others[5].leaves(0, 13);
        others[6].friends(6, 7, 1);
        others[7].piece(1);
        others[8].asOf(1);
        for (int i = 0; i < others.length; i++) Due.isTrue("digest sees change " + i, others[i].digest() != before);
        LongestMet sheets = full();
        sheets.sheet(0, 0, 5);
        sheets.lose(3);
        Due.is("digest tells nothing of sheets", sheets.digest(), before);
    }

    private static void twoObjectsAreApart() {
        LongestMet x = full();
        LongestMet y = new LongestMet();
        Due.is("another object is new", y.digest(), new LongestMet().digest());
        Due.line(y, 0, "1,2,3,4");
        Due.is("the first one keeps its line", x.count(0), 3);
    }
}
