/** Promises 34 to 39. */
public final class SheetsTest {
    private static final int NULL = -11, INDEX = -12, CAST = -13, STORE = -14, SIZE = -15;
    private static final int LEAST = Integer.MIN_VALUE;

    public static void main(String[] args) {
        promise34Sheet();
        promise35Lose();
        promise36Put();
        promise37Get();
        promise38Copy();
        promise38CopyRefuses();
        promise39Write();
        Due.end();
    }

    private static void promise34Sheet() {
        LongestMet x = new LongestMet();
        Due.is("sheet(0, 0, 0)", x.sheet(0, 0, 0), 0);
        Due.is("get of no items", x.get(0, 0, 0), LEAST);
        Due.is("count(8): INDEX, not LOST", x.count(8), 2);
        Due.is("sheet(3, 2, 60)", x.sheet(3, 2, 60), 60);
        for (int i = 0; i < 60; i++) {
            Due.is("item " + i, x.get(3, 2, i), 0);
            x.put(3, 2, i, 7);
        }
        Due.is("sheet(3, 1, 60) anew", x.sheet(3, 1, 60), 60);
        for (int i = 0; i < 60; i++) Due.is("item " + i + " anew", x.get(3, 1, i), 0);
        x.put(3, 1, 0, 5);
        Due.is("sheet(3, 1, -1)", x.sheet(3, 1, -1), SIZE);
        Due.is("count(8)", x.count(8), 5);
        Due.is("item kept", x.get(3, 1, 0), 5);
        int[][] wrong = {{-1, 0, 1}, {4, 0, 1}, {0, -1, 1}, {0, 3, 1}, {0, 0, 61}, {-1, 0, -1}, {0, 3, -1}, {0, 0, Integer.MAX_VALUE}};
        for (int[] w : wrong) {
            Due.is("sheet(" + w[0] + ", " + w[1] + ", " + w[2] + ")", x.sheet(w[0], w[1], w[2]), LongestMet.BAD);
        }
        Due.is("sheet(0, 0, least)", x.sheet(0, 0, Integer.MIN_VALUE), SIZE);
    }

    private static void promise35Lose() {
        LongestMet x = new LongestMet();
        for (int s = 0; s <= 3; s++) Due.is("lose(" + s + ") at first", x.lose(s), NULL);
        Due.is("count(8)", x.count(8), 1);
        x.sheet(2, 1, 9);
        Due.is("lose(2)", x.lose(2), 9);
        Due.is("lose(2) again", x.lose(2), NULL);
        x.sheet(2, 1, 0);
        Due.is("lose(2) of no items", x.lose(2), 0);
        Due.is("lose(-1)", x.lose(-1), LongestMet.BAD);
        Due.is("lose(4)", x.lose(4), LongestMet.BAD);
    }

    private static void promise36Put() {
        LongestMet x = new LongestMet();
        Due.is("put, lost", x.put(0, 0, 0, 1), NULL);
        int[] values = {0, 127, 128, 255, 256, -128, -129, 32767, 32768, 65535, 65536, -32769, Integer.MAX_VALUE, Integer.MIN_VALUE};
        for (int form = 0; form <= 2; form++) {
            x.sheet(form, form, values.length);
            for (int i = 0; i < values.length; i++) {
                int due = form == 0 ? (byte) values[i] : form == 1 ? (short) values[i] : values[i];
                Due.is("put(" + form + ", " + form + ", " + i + ", " + values[i] + ")", x.put(form, form, i, values[i]), 1);
                Due.is("get of " + values[i] + " of form " + form, x.get(form, form, i), due);
            }
            Due.is("put, another form", x.put(form, (form + 1) % 3, 99, 1), CAST);
            Due.is("put(" + form + ", " + form + ", size, 1)", x.put(form, form, values.length, 1), INDEX);
            Due.is("put(" + form + ", " + form + ", -1, 1)", x.put(form, form, -1, 1), INDEX);
            Due.is("count(8)", x.count(8), 2);
        }
        Due.is("put(-1, 0, 0, 0)", x.put(-1, 0, 0, 0), LongestMet.BAD);
        Due.is("put(4, 0, 0, 0)", x.put(4, 0, 0, 0), LongestMet.BAD);
        Due.is("put(3, -1, 0, 0): BAD ahead of NULL", x.put(3, -1, 0, 0), LongestMet.BAD);
        Due.is("put(3, 3, 0, 0): BAD ahead of NULL", x.put(3, 3, 0, 0), LongestMet.BAD);
        Due.is("BAD is no finding", x.count(8), 2);
    }

    private static void promise37Get() {
        LongestMet x = new LongestMet();
        Due.is("get(4, 0, 0)", x.get(4, 0, 0), LEAST);
        Due.is("get(-1, 0, 0)", x.get(-1, 0, 0), LEAST);
        Due.is("get(0, 3, 0)", x.get(0, 3, 0), LEAST);
        Due.is("get(0, -1, 0)", x.get(0, -1, 0), LEAST);
        Due.is("BAD is no finding", x.count(8), 0);
        getFinds(x, 0, 0, 0, 1);
        x.sheet(0, 1, 2);
        x.put(0, 1, 1, -5);
        getFinds(x, 0, 0, 9, 3);
        getFinds(x, 0, 1, 2, 2);
        getFinds(x, 0, 2, 0, 3);
        getFinds(x, 0, 1, -1, 2);
        Due.is("get(0, 1, 1)", x.get(0, 1, 1), -5);
        Due.is("get(0, 1, 0)", x.get(0, 1, 0), 0);
        Due.is("count(8) stays", x.count(8), 2);
    }

    private static void getFinds(LongestMet x, int s, int form, int i, int number) {
        Due.is("get(" + s + ", " + form + ", " + i + ")", x.get(s, form, i), LEAST);
        Due.is("count(8) behind it", x.count(8), number);
    }

    private static void promise38Copy() {
        LongestMet x = new LongestMet();
        x.sheet(0, 0, 6);
        x.sheet(1, 0, 4);
        for (int i = 0; i < 6; i++) x.put(0, 0, i, i + 1);
        Due.is("copy(0, 2, 1, 0, 4)", x.copy(0, 2, 1, 0, 4), 1);
        itemsAre(x, 1, 3, 4, 5, 6);
        itemsAre(x, 0, 1, 2, 3, 4, 5, 6);
        Due.is("copy(0, 0, 1, 3, 1)", x.copy(0, 0, 1, 3, 1), 1);
        itemsAre(x, 1, 3, 4, 5, 1);
        Due.is("copy(0, 0, 0, 2, 4), to itself, later", x.copy(0, 0, 0, 2, 4), 1);
        itemsAre(x, 0, 1, 2, 1, 2, 3, 4);
        Due.is("copy(0, 2, 0, 1, 4), to itself, ahead", x.copy(0, 2, 0, 1, 4), 1);
        itemsAre(x, 0, 1, 1, 2, 3, 4, 4);
        Due.is("copy(0, 6, 1, 4, 0), none from the end", x.copy(0, 6, 1, 4, 0), 1);
        itemsAre(x, 1, 3, 4, 5, 1);
    }

    private static void itemsAre(LongestMet x, int s, int... items) {
        for (int i = 0; i < items.length; i++) Due.is("item " + i + " of " + s, x.get(s, 0, i), items[i]);
    }

    private static void promise38CopyRefuses() {
        LongestMet x = new LongestMet();
        x.sheet(0, 0, 6);
        x.sheet(1, 0, 4);
        x.sheet(2, 1, 4);
        int most = Integer.MAX_VALUE;
        int[][] none = {{-1, 0, 1, 0, 1}, {0, 0, 0, -1, 1}, {0, 0, 0, 0, -1}, {7, 0, 0, 0, 0}, {0, 0, 5, 0, 0}, {3, 0, 0, 4, 1},
            {3, 0, 1, 0, 4}, {0, 0, 0, 0, 5}, {0, 0, 1, 0, 4}, {1, 0, 0, 0, most}, {most, 0, 0, 0, most}, {0, 0, most, 0, most},
            {2, 0, 0, 0, 5}, {0, 0, 2, 0, 3}, {LEAST, 0, 0, 0, LEAST}, {0, 0, LEAST, 0, most}};
        for (int[] c : none) {
            boolean fits = c[0] >= 0 && c[2] >= 0 && c[4] >= 0 && (long) c[0] + c[4] <= 6 && (long) c[2] + c[4] <= 4;
            Due.is("copy(0, " + c[0] + ", 1, " + c[2] + ", " + c[4] + ")", x.copy(0, c[0], 1, c[2], c[4]), fits ? 1 : INDEX);
        }
        Due.is("copy(0, 5, 1, 0, 2)", x.copy(0, 5, 1, 0, 2), INDEX);
        Due.is("copy(0, 0, 1, 3, 2)", x.copy(0, 0, 1, 3, 2), INDEX);
        Due.is("count(8)", x.count(8), 2);
        Due.is("copy of unlike forms", x.copy(0, 0, 2, 0, 1), STORE);
        Due.is("copy of unlike forms, no such items", x.copy(0, -1, 2, 0, 1), STORE);
        Due.is("copy of none, unlike forms", x.copy(2, 0, 0, 0, 0), STORE);
        Due.is("count(8)", x.count(8), 4);
        Due.is("copy from a lost one", x.copy(3, 0, 0, 0, 1), NULL);
        Due.is("copy to a lost one", x.copy(0, 0, 3, 0, -1), NULL);
        Due.is("copy(3, 0, 3, 0, 0)", x.copy(3, 0, 3, 0, 0), NULL);
        Due.is("copy(-1, 0, 3, 0, 1)", x.copy(-1, 0, 3, 0, 1), LongestMet.BAD);
        Due.is("copy(3, 0, 4, 0, 1)", x.copy(3, 0, 4, 0, 1), LongestMet.BAD);
        Due.is("copy(4, 0, 0, 0, 1)", x.copy(4, 0, 0, 0, 1), LongestMet.BAD);
        Due.is("copy(0, 0, -1, 0, 1)", x.copy(0, 0, -1, 0, 1), LongestMet.BAD);
        Due.is("count(8)", x.count(8), 1);
    }

    private static void promise39Write() {
        LongestMet x = new LongestMet();
        x.sheet(0, 0, 0);
        Due.is("write(0, 0), no bus", x.write(0, 0), LongestMet.NOT);
        Due.is("write(0, 1), lost, no bus", x.write(0, 1), NULL);
        Due.is("write(-1, 1)", x.write(-1, 1), LongestMet.BAD);
        Due.is("write(3, 1)", x.write(3, 1), LongestMet.BAD);
        Due.is("write(0, -1)", x.write(0, -1), LongestMet.BAD);
        Due.is("write(0, 4)", x.write(0, 4), LongestMet.BAD);
        takeLines(x);
        Due.is("write(0, 0), no items", x.write(0, 0), 0);
        for (int form = 0; form <= 2; form++) {
            for (int who = 0; who <= 2; who++) {
                LongestMet y = new LongestMet();
                takeLines(y);
                y.sheet(form, form, 60);
                Due.is("write(" + who + ", " + form + ")", y.write(who, form), 60);
                for (int m = 0; m < 60; m++) Due.is("item " + m + " of " + who, y.get(form, form, m), y.waits(who, m));
                if (who == 2) Due.is("item 21 of either", y.get(form, form, 21), 29);
            }
        }
        x.sheet(3, 1, 2);
        Due.is("write(1, 3)", x.write(1, 3), 2);
        Due.is("item 1", x.get(3, 1, 1), 49);
    }

    private static void takeLines(LongestMet x) {
        Due.line(x, 0, "20");
        Due.line(x, 1, "50");
    }
}
