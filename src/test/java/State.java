/** Objects that are new, that have something of all, and that have as much of all as may be. */
enum State {
    NEW(0, 0), SOME(20, 2), FILLED(999, 5);

    /** The TIME of the latest ANSWER or taking back, and count(8). */
    final int now, latestFinding;

    State(int now, int latestFinding) {
        this.now = now;
        this.latestFinding = latestFinding;
    }

    /** Always the same one, with less than 220 calls. */
    LongestMet make() {
        LongestMet x = new LongestMet();
        if (this == SOME) haveSome(x);
        if (this == FILLED) haveAll(x);
        return x;
    }

    private static void haveSome(LongestMet x) {
        Due.line(x, 0, "0,5,30");
        Due.line(x, 1, "12+20,59");
        Due.text(x, "5+7,");
        x.asked(4, 1);
        x.asked(2, 2);
        x.asked(2, 2);
        x.takeBack(1, 3);
        x.asked(7, 20);
        x.asOf(15);
        x.families(0, 1, 5);
        x.families(1, 4, 1);
        x.families(1, 2, 3);
        x.families(2, 8, 9);
        x.stay(5, 14);
        x.stay(12, 12);
        x.stay(28, 40);
        x.friends(0, 1, 1);
        x.friends(1, 2, 1);
        x.piece(3);
        x.piece(8);
        x.sheet(0, 0, 5);
        x.put(0, 0, 0, -128);
        x.put(0, 0, 4, 127);
        x.sheet(1, 1, 3);
        x.put(1, 1, 1, -32768);
        x.sheet(2, 2, 2);
        x.put(2, 2, 0, Integer.MAX_VALUE);
        x.put(2, 2, 1, Integer.MIN_VALUE + 1);
        x.get(0, 0, 5);
    }

    private static void haveAll(LongestMet x) {
        Due.line(x, 0, "0+1");
        Due.line(x, 1, "0+5");
        Due.text(x, "10,11,12,13,14,15,16,17,18,19,20,21,22,3");
        for (int a = 0; a < 40; a++) x.asked(1 + a % 8, 25 * a);
        x.takeBack(0, 999);
        x.takeBack(39, 999);
        for (int town = 0; town <= 3; town++) {
            for (int n = 1; n <= 8; n++) x.families(town, n, 9);
        }
        for (int i = 0; i < 24; i++) x.stay(7 * i % 81, 7 * i % 81 + i % 20);
        for (int a = 0; a <= 7; a++) {
            for (int b = a + 1; b <= 7; b++) x.friends(a, b, 1);
        }
        for (int p = 0; p < 8; p++) x.piece(20);
        for (int s = 0; s <= 3; s++) {
            x.sheet(s, s % 3, 60);
            x.write(1, s);
        }
        x.sheet(3, 0, -1);
    }
}
