/** The boundary cases of the sheets in part 1 of the terms, and of promises 34 to 39. */
final class SheetsEdges {
    private static final int BAD = LongestMet.BAD, NOT = LongestMet.NOT, LEAST = Integer.MIN_VALUE, MOST = Integer.MAX_VALUE;
    private static final int NULL = Refusal.NULL, INDEX = Refusal.INDEX, CAST = Refusal.CAST, STORE = Refusal.STORE, SIZE = Refusal.SIZE;

    private SheetsEdges() {
    }

    static void run() {
        rows();
        findings();
        promise34();
        promise35();
        promise36();
        promise36Refuses();
        promise37();
        promise38();
        promise38ToItself();
        promise38Refuses();
        promise39();
    }

    /** SHEET s of a form with the numbers 1, 2, .. n. */
    private static LongestMet with(LongestMet x, int s, int form, int n) {
        x.sheet(s, form, n);
        for (int i = 0; i < n; i++) x.put(s, form, i, i + 1);
        return x;
    }

    private static LongestMet with(int s, int form, int n) {
        return with(new LongestMet(), s, form, n);
    }

    private static void itemsAre(LongestMet x, int s, int form, int... items) {
        for (int i = 0; i < items.length; i++) Due.is("get(" + s + ", " + form + ", " + i + ")", x.get(s, form, i), items[i]);
    }

    private static void rows() {
        Due.by("Terms 1", "SHEETS 0 .. 3 are LOST (at first) or a row of a FORM:");
        LongestMet x = new LongestMet();
        for (int s = 0; s <= 3; s++) Due.is("lose(" + s + "), at first", x.lose(s), NULL);
        for (int s = 0; s <= 3; s++) Due.is("sheet(" + s + ", 2, 5)", x.sheet(s, 2, 5), 5);
        for (int s = 0; s <= 3; s++) Due.is("lose(" + s + ")", x.lose(s), 5);
        for (int s = 0; s <= 3; s++) Due.is("lose(" + s + ") again", x.lose(s), NULL);
        Refusal.outside("lose(#)", 0, 3, (y, s) -> y.lose(s), BAD);
        Due.by("Terms 1", "0 bytes, 1 shorts, 2 ints,");
        int[] least = {-128, -32768, LEAST};
        int[] most = {127, 32767, MOST};
        for (int form = 0; form <= 2; form++) {
            LongestMet y = new LongestMet();
            y.sheet(0, form, 2);
            Due.is("put(0, " + form + ", 0, least)", y.put(0, form, 0, least[form]), 1);
            Due.is("put(0, " + form + ", 1, most)", y.put(0, form, 1, most[form]), 1);
            itemsAre(y, 0, form, least[form], most[form]);
            y.put(0, form, 0, least[form] - 1);
            y.put(0, form, 1, most[form] + 1);
            itemsAre(y, 0, form, most[form], least[form]);
        }
        Refusal.outside("sheet(0, #, 5)", 0, 2, (y, form) -> y.sheet(0, form, 5), BAD);
        Due.by("Terms 1", "of 0 to 60 items (0 at first).");
        for (int form = 0; form <= 2; form++) {
            for (int n = 0; n <= 60; n++) {
                LongestMet y = with(3, form, 60);
                Due.is("sheet(3, " + form + ", " + n + ")", y.sheet(3, form, n), n);
                for (int i = 0; i < n; i++) Due.is("get(3, " + form + ", " + i + "), at first", y.get(3, form, i), 0);
                Due.is("get(3, " + form + ", " + n + "): no such item", y.get(3, form, n), LEAST);
                Due.is("count(8)", y.count(8), 2);
                Due.is("lose(3)", y.lose(3), n);
            }
        }
    }

    private static void findings() {
        Due.by("Terms 1", "FINDINGS (answers -10 less the number; they change nothing but count() 8):");
        for (State state : State.values()) {
            LongestMet x = state.make();
            Due.is("sheet(0, 0, -1)", x.sheet(0, 0, -1), -15);
            Due.is("count(8)", x.count(8), 5);
            long before = state.make().digest();
            Due.is("digest()", x.digest(), before);
            Due.is("count(8) behind a call that has none", x.count(8), 5);
        }
        Due.by("Terms 1", "1 NULL: the SHEET is LOST;");
        Refusal.in(State.SOME, "lose(3)", x -> x.lose(3), -11);
        Refusal.in(State.SOME, "put(3, 0, 0, 1)", x -> x.put(3, 0, 0, 1), -11);
        Refusal.ofGet(State.SOME, "get(3, 0, 0)", x -> x.get(3, 0, 0), 1);
        Refusal.in(State.SOME, "read(3, 20)", x -> x.read(3, 20), -11);
        Refusal.in(State.SOME, "write(0, 3)", x -> x.write(0, 3), -11);
        Refusal.in(State.SOME, "copy(0, 0, 3, 0, 0)", x -> x.copy(0, 0, 3, 0, 0), -11);
        Due.by("Terms 1", "2 INDEX: there is no such item;");
        Refusal.in(State.SOME, "put(0, 0, 5, 1)", x -> x.put(0, 0, 5, 1), -12);
        Refusal.in(State.SOME, "put(0, 0, -1, 1)", x -> x.put(0, 0, -1, 1), -12);
        Refusal.in(State.SOME, "copy(0, 0, 0, 1, 5)", x -> x.copy(0, 0, 0, 1, 5), -12);
        Due.by("Terms 1", "3 CAST: it has another FORM;");
        Refusal.in(State.SOME, "put(0, 1, 0, 1)", x -> x.put(0, 1, 0, 1), -13);
        Refusal.ofGet(State.SOME, "get(0, 2, 0)", x -> x.get(0, 2, 0), 3);
        Due.by("Terms 1", "4 STORE: unlike FORMS;");
        Refusal.in(State.SOME, "copy(0, 0, 1, 0, 1)", x -> x.copy(0, 0, 1, 0, 1), -14);
        Due.by("Terms 1", "5 SIZE: below 0.");
        Refusal.inAll("sheet(0, 0, -1)", x -> x.sheet(0, 0, -1), -15);
        Refusal.inAll("sheet(3, 2, least)", x -> x.sheet(3, 2, LEAST), -15);
        Due.is("sheet(0, 0, 0)", new LongestMet().sheet(0, 0, 0), 0);
    }

    private static void promise34() {
        Due.by("Promise 34", "A SHEET is a new row of a FORM with n items: n.");
        LongestMet x = with(0, 0, 5);
        Due.is("sheet(0, 0, 5): a new one", x.sheet(0, 0, 5), 5);
        itemsAre(x, 0, 0, 0, 0, 0, 0, 0);
        Due.is("sheet(0, 2, 60)", x.sheet(0, 2, 60), 60);
        Due.is("get(0, 2, 59)", x.get(0, 2, 59), 0);
        Due.is("put(0, 0, 0, 1): no bytes any more", x.put(0, 0, 0, 1), CAST);
        Due.is("sheet(0, 1, 0)", x.sheet(0, 1, 0), 0);
        Due.is("lose(0): not LOST", x.lose(0), 0);
        with(x, 1, 0, 3);
        x.sheet(2, 0, 3);
        itemsAre(x, 1, 0, 1, 2, 3);
        Due.by("Promise 34", "BAD: SHEET, FORM, above 60; SIZE.");
        Refusal.bounds("sheet(#, 0, 60)", 0, 3, (y, s) -> y.sheet(s, 0, 60), BAD);
        Refusal.bounds("sheet(3, #, 0)", 0, 2, (y, form) -> y.sheet(3, form, 0), BAD);
        Refusal.within("sheet(0, 0, #)", 0, 60, (y, n) -> y.sheet(0, 0, n), BAD);
        for (int n : new int[] {61, 1000, MOST}) Refusal.inAll("sheet(0, 0, " + n + ")", y -> y.sheet(0, 0, n), BAD);
        for (int n : new int[] {-1, -60, LEAST}) Refusal.inAll("sheet(0, 0, " + n + ")", y -> y.sheet(0, 0, n), SIZE);
        Refusal.bounds("sheet(#, 0, -1): BAD first", 0, 3, (y, s) -> y.sheet(s, 0, -1), BAD);
        Refusal.bounds("sheet(0, #, -1): BAD first", 0, 2, (y, form) -> y.sheet(0, form, -1), BAD);
    }

    private static void promise35() {
        Due.by("Promise 35", "It is LOST: how many items it had.");
        for (int n = 0; n <= 60; n += 20) {
            for (int s = 0; s <= 3; s++) {
                LongestMet x = with(s, 1, n);
                Due.is("lose(" + s + ") of " + n, x.lose(s), n);
                Due.is("lose(" + s + ") again", x.lose(s), NULL);
                x.sheet(s, 1, 60);
                Due.is("get(" + s + ", 1, 0): nothing is left of it", x.get(s, 1, 0), 0);
            }
        }
        LongestMet others = State.FILLED.make();
        others.lose(1);
        for (int s = 0; s <= 3; s++) Due.is("lose(" + s + "), 1 is LOST", others.lose(s), s == 1 ? NULL : 60);
        Due.by("Promise 35", "BAD; NULL.");
        Refusal.bounds("lose(#)", 0, 3, (y, s) -> y.lose(s), BAD);
        for (int n = 0; n <= 3; n++) {
            int s = n;
            Refusal.in(State.NEW, "lose(" + s + ")", y -> y.lose(s), NULL);
        }
        Refusal.in(State.SOME, "lose(3)", y -> y.lose(3), NULL);
    }

    private static void putGives(int form, int v, int due) {
        LongestMet x = new LongestMet();
        x.sheet(0, form, 1);
        Due.is("put(0, " + form + ", 0, " + v + ")", x.put(0, form, 0, v), 1);
        Due.is("get behind put(0, " + form + ", 0, " + v + ")", x.get(0, form, 0), due);
    }

    private static void promise36() {
        Due.by("Promise 36", "Item i, treated as of a FORM, becomes v (the lowest bits that it has, with its sign; by write(), too): 1.");
        int[][] bytes = {{0, 0}, {127, 127}, {128, -128}, {255, -1}, {256, 0}, {-128, -128}, {-129, 127}, {-256, 0}, {-257, -1}, {LEAST, 0}, {MOST, -1}};
        for (int[] b : bytes) putGives(0, b[0], b[1]);
        int[][] shorts = {{32767, 32767}, {32768, -32768}, {65535, -1}, {65536, 0}, {-32768, -32768}, {-32769, 32767}, {LEAST, 0}, {MOST, -1}};
        for (int[] s : shorts) putGives(1, s[0], s[1]);
        for (int v : new int[] {0, -1, 65536, LEAST, MOST}) putGives(2, v, v);
        for (int form = 0; form <= 2; form++) {
            LongestMet x = with(2, form, 60);
            Due.is("put(2, " + form + ", 0, -7)", x.put(2, form, 0, -7), 1);
            Due.is("put(2, " + form + ", 59, -9)", x.put(2, form, 59, -9), 1);
            for (int i = 0; i <= 59; i++) Due.is("get(2, " + form + ", " + i + ")", x.get(2, form, i), i == 0 ? -7 : i == 59 ? -9 : i + 1);
        }
    }

    private static void promise36Refuses() {
        Due.by("Promise 36", "BAD; NULL; CAST; INDEX.");
        Refusal.bounds("put(#, 0, 0, 1)", 0, 3, (y, s) -> y.put(s, 0, 0, 1), BAD);
        Refusal.bounds("put(3, #, 0, 1)", 0, 2, (y, form) -> y.put(3, form, 0, 1), BAD);
        Refusal.bounds("put(0, #, 60, 1)", 0, 2, (y, form) -> y.put(0, form, 60, 1), BAD);
        for (int i : new int[] {-1, 0, 60, LEAST, MOST}) {
            Refusal.in(State.NEW, "put(0, 0, " + i + ", 1), LOST: NULL first", y -> y.put(0, 0, i, 1), NULL);
            Refusal.in(State.SOME, "put(3, 2, " + i + ", 1), LOST: NULL first", y -> y.put(3, 2, i, 1), NULL);
            Refusal.in(State.SOME, "put(0, 1, " + i + ", 1), bytes: CAST first", y -> y.put(0, 1, i, 1), CAST);
            Refusal.in(State.SOME, "put(0, 2, " + i + ", 1), bytes: CAST first", y -> y.put(0, 2, i, 1), CAST);
            Refusal.in(State.SOME, "put(1, 0, " + i + ", 1), shorts: CAST first", y -> y.put(1, 0, i, 1), CAST);
            Refusal.in(State.SOME, "put(2, 1, " + i + ", 1), ints: CAST first", y -> y.put(2, 1, i, 1), CAST);
        }
        for (int i : new int[] {-1, 5, 60, LEAST, MOST}) {
            Refusal.in(State.SOME, "put(0, 0, " + i + ", 1), 5 items", y -> y.put(0, 0, i, 1), INDEX);
        }
        for (int i : new int[] {-1, 60, LEAST, MOST}) {
            Refusal.in(State.FILLED, "put(0, 0, " + i + ", 1), 60 items", y -> y.put(0, 0, i, 1), INDEX);
        }
        Due.is("put(0, 0, 4, 1), 5 items", State.SOME.make().put(0, 0, 4, 1), 1);
        LongestMet empty = with(0, 0, 0);
        Due.is("put(0, 0, 0, 1), no items", empty.put(0, 0, 0, 1), INDEX);
        Due.is("put(0, 1, 0, 1), no items: CAST first", empty.put(0, 1, 0, 1), CAST);
    }

    private static void promise37() {
        Due.by("Promise 37", "Item i of it.");
        for (int form = 0; form <= 2; form++) {
            LongestMet x = with(1, form, 60);
            for (int i = 0; i <= 59; i++) Due.is("get(1, " + form + ", " + i + ")", x.get(1, form, i), i + 1);
            Due.is("count(8)", x.count(8), 0);
        }
        LongestMet least = new LongestMet();
        least.sheet(0, 2, 1);
        least.put(0, 2, 0, LEAST);
        Due.is("get(0, 2, 0) of the least int", least.get(0, 2, 0), LEAST);
        Due.is("count(8): no FINDING", least.count(8), 0);
        Due.by("Promise 37", "BAD: the least int; so are NULL, CAST, INDEX (count() 8 tells).");
        int[] wrong = {-1, 4, LEAST, MOST};
        for (State state : State.values()) {
            for (int s : wrong) Refusal.ofGet(state, "get(" + s + ", 0, 0)", y -> y.get(s, 0, 0), 0);
            for (int form : new int[] {-1, 3, LEAST, MOST}) {
                Refusal.ofGet(state, "get(0, " + form + ", 0)", y -> y.get(0, form, 0), 0);
                Refusal.ofGet(state, "get(0, " + form + ", 60)", y -> y.get(0, form, 60), 0);
            }
        }
        for (int i : new int[] {-1, 0, 60, LEAST, MOST}) {
            Refusal.ofGet(State.NEW, "get(0, 0, " + i + "), LOST", y -> y.get(0, 0, i), 1);
            Refusal.ofGet(State.SOME, "get(3, 2, " + i + "), LOST", y -> y.get(3, 2, i), 1);
            Refusal.ofGet(State.SOME, "get(0, 1, " + i + "), bytes", y -> y.get(0, 1, i), 3);
            Refusal.ofGet(State.SOME, "get(2, 0, " + i + "), ints", y -> y.get(2, 0, i), 3);
        }
        for (int i : new int[] {-1, 60, LEAST, MOST}) {
            Refusal.ofGet(State.SOME, "get(0, 0, " + i + "), 5 items", y -> y.get(0, 0, i), 2);
            Refusal.ofGet(State.FILLED, "get(0, 0, " + i + "), 60 items", y -> y.get(0, 0, i), 2);
        }
        Refusal.ofGet(State.SOME, "get(0, 0, 5), 5 items", y -> y.get(0, 0, 5), 2);
        Due.is("get(0, 0, 4), 5 items", State.SOME.make().get(0, 0, 4), 127);
        Refusal.in(State.SOME, "get(0, 0, 4) only asks", y -> y.get(0, 0, 4), 127);
    }

    private static void promise38() {
        Due.by("Promise 38", "n items of SHEET s, from i on, come to SHEET t");
        LongestMet x = with(0, 1, 6);
        x.sheet(3, 1, 4);
        Due.is("copy(0, 2, 3, 0, 4): up to both ends", x.copy(0, 2, 3, 0, 4), 1);
        itemsAre(x, 3, 1, 3, 4, 5, 6);
        itemsAre(x, 0, 1, 1, 2, 3, 4, 5, 6);
        Due.by("Promise 38", "from j on: 1.");
        Due.is("copy(0, 0, 3, 3, 1)", x.copy(0, 0, 3, 3, 1), 1);
        itemsAre(x, 3, 1, 3, 4, 5, 1);
        Due.is("copy(0, 5, 3, 0, 1)", x.copy(0, 5, 3, 0, 1), 1);
        itemsAre(x, 3, 1, 6, 4, 5, 1);
        Due.is("copy(0, 0, 3, 0, 0)", x.copy(0, 0, 3, 0, 0), 1);
        Due.is("copy(0, 6, 3, 4, 0): from the ends on", x.copy(0, 6, 3, 4, 0), 1);
        itemsAre(x, 3, 1, 6, 4, 5, 1);
        for (int form = 0; form <= 2; form++) {
            LongestMet y = with(1, form, 60);
            y.sheet(2, form, 60);
            Due.is("copy(1, 0, 2, 0, 60)", y.copy(1, 0, 2, 0, 60), 1);
            for (int i = 0; i <= 59; i++) Due.is("get(2, " + form + ", " + i + ")", y.get(2, form, i), i + 1);
        }
        LongestMet apart = with(0, 0, 2);
        apart.sheet(1, 0, 2);
        apart.copy(0, 0, 1, 0, 2);
        apart.put(0, 0, 0, 9);
        Due.is("get(1, 0, 0): a row of its own", apart.get(1, 0, 0), 1);
        LongestMet empty = with(0, 0, 0);
        empty.sheet(1, 0, 0);
        Due.is("copy(0, 0, 1, 0, 0) of no items", empty.copy(0, 0, 1, 0, 0), 1);
    }

    private static void promise38ToItself() {
        Due.by("Promise 38", "(perhaps s, as they were),");
        for (int i = 0; i <= 6; i++) {
            for (int j = 0; j <= 6; j++) {
                for (int n = 0; n <= 6 - Math.max(i, j); n++) {
                    LongestMet x = with(0, 0, 6);
                    Due.is("copy(0, " + i + ", 0, " + j + ", " + n + ")", x.copy(0, i, 0, j, n), 1);
                    int[] due = {1, 2, 3, 4, 5, 6};
                    for (int k = 0; k < n; k++) due[j + k] = i + k + 1;
                    itemsAre(x, 0, 0, due);
                }
            }
        }
    }

    private static void promise38Refuses() {
        Due.by("Promise 38", "BAD: the SHEETS; NULL: s, t; STORE;");
        Refusal.bounds("copy(#, 0, 0, 0, 0)", 0, 3, (y, s) -> y.copy(s, 0, 0, 0, 0), BAD);
        Refusal.bounds("copy(0, 0, #, 0, 0)", 0, 3, (y, t) -> y.copy(0, 0, t, 0, 0), BAD);
        Refusal.bounds("copy(#, -1, 3, -1, -1): BAD first", 0, 3, (y, s) -> y.copy(s, -1, 3, -1, -1), BAD);
        Refusal.bounds("copy(3, -1, #, -1, -1): BAD first", 0, 3, (y, t) -> y.copy(3, -1, t, -1, -1), BAD);
        Refusal.in(State.NEW, "copy(0, 0, 1, 0, 0), both LOST", y -> y.copy(0, 0, 1, 0, 0), NULL);
        Refusal.in(State.NEW, "copy(2, 0, 2, 0, 0), LOST", y -> y.copy(2, 0, 2, 0, 0), NULL);
        Refusal.in(State.SOME, "copy(3, 0, 0, 0, 0), s LOST", y -> y.copy(3, 0, 0, 0, 0), NULL);
        Refusal.in(State.SOME, "copy(0, 0, 3, 0, 0), t LOST", y -> y.copy(0, 0, 3, 0, 0), NULL);
        Refusal.in(State.SOME, "copy(3, -1, 0, -1, -1): NULL ahead of INDEX", y -> y.copy(3, -1, 0, -1, -1), NULL);
        Refusal.in(State.SOME, "copy(0, 0, 1, 0, 0): bytes to shorts, none of them", y -> y.copy(0, 0, 1, 0, 0), STORE);
        Refusal.in(State.SOME, "copy(1, 0, 2, 0, 1): shorts to ints", y -> y.copy(1, 0, 2, 0, 1), STORE);
        Refusal.in(State.SOME, "copy(2, -1, 0, 99, -1): STORE ahead of INDEX", y -> y.copy(2, -1, 0, 99, -1), STORE);
        LongestMet renewed = with(0, 0, 2);
        renewed.sheet(1, 2, 2);
        renewed.lose(1);
        Due.is("copy(0, 0, 1, 0, 1): LOST, was ints: NULL", renewed.copy(0, 0, 1, 0, 1), NULL);
        Due.by("Promise 38", "INDEX: i, j or n below 0, not so many there (of n 0, too: i or j above the size).");
        // SHEET 0 has 6 items, SHEET 1 has 4
        int[][] none = {{-1, 0, 0}, {0, -1, 0}, {0, 0, -1}, {-1, 0, 1}, {0, -1, 1}, {7, 0, 0}, {0, 5, 0}, {6, 0, 1}, {0, 4, 1}, {3, 0, 4}, {0, 1, 4},
            {0, 0, 5}, {LEAST, 0, 0}, {0, LEAST, 0}, {0, 0, LEAST}, {MOST, 0, 0}, {0, MOST, 0}, {0, 0, MOST}, {MOST, 0, MOST}, {0, MOST, MOST},
            {1, 0, MOST}, {0, 1, MOST}, {MOST, MOST, MOST}, {LEAST, LEAST, LEAST}, {LEAST, 0, MOST}, {7, 0, -1}, {1, 1, -1}, {6, 4, -1}};
        for (int[] c : none) {
            LongestMet x = with(with(0, 0, 6), 1, 0, 4);
            Due.is("copy(0, " + c[0] + ", 1, " + c[1] + ", " + c[2] + ")", x.copy(0, c[0], 1, c[1], c[2]), INDEX);
            Due.is("count(8)", x.count(8), 2);
            itemsAre(x, 1, 0, 1, 2, 3, 4);
            itemsAre(x, 0, 0, 1, 2, 3, 4, 5, 6);
        }
        // to itself, 5 items
        int[][] noneOfFive = {{-1, 0, 0}, {0, -1, 0}, {0, 0, -1}, {6, 0, 0}, {0, 6, 0}, {5, 0, 1}, {0, 5, 1}, {0, 0, 6}, {1, 0, MOST}, {MOST, MOST, 1}};
        for (int[] c : noneOfFive) {
            String name = "copy(0, " + c[0] + ", 0, " + c[1] + ", " + c[2] + ")";
            Refusal.in(State.SOME, name, y -> y.copy(0, c[0], 0, c[1], c[2]), INDEX);
        }
        int[][] last = {{6, 4, 0}, {2, 0, 4}, {0, 0, 4}, {5, 3, 1}};
        for (int[] c : last) {
            LongestMet x = with(with(0, 0, 6), 1, 0, 4);
            Due.is("copy(0, " + c[0] + ", 1, " + c[1] + ", " + c[2] + ")", x.copy(0, c[0], 1, c[1], c[2]), 1);
            Due.is("count(8)", x.count(8), 0);
        }
    }

    private static void promise39() {
        Due.by("Promise 39", "WAITS of WHO comes at MINUTES 0 on come to a SHEET from item 0 on, as many as there are items: how many.");
        for (int form = 0; form <= 2; form++) {
            for (int n : new int[] {0, 1, 2, 59, 60}) {
                LongestMet x = with(3, form, n);
                Due.line(x, 0, "20");
                Due.line(x, 1, "50");
                Due.is("write(2, 3) of " + n, x.write(2, 3), n);
                for (int m = 0; m < n; m++) {
                    int due = m <= 20 ? 20 - m : m <= 50 ? 50 - m : 80 - m;
                    Due.is("get(3, " + form + ", " + m + ")", x.get(3, form, m), due);
                }
                Due.is("lose(3): as many items as before", x.lose(3), n);
            }
        }
        LongestMet lines = with(0, 0, 1);
        Due.line(lines, 0, "59");
        Due.line(lines, 1, "1");
        Due.is("write(0, 0)", lines.write(0, 0), 1);
        Due.is("get(0, 0, 0): the longest WAIT", lines.get(0, 0, 0), 59);
        Due.is("write(1, 0)", lines.write(1, 0), 1);
        Due.is("get(0, 0, 0)", lines.get(0, 0, 0), 1);
        Due.by("Promise 39", "BAD; NULL; NOT: no such BUS.");
        Refusal.bounds("write(#, 3)", 0, 2, (y, who) -> y.write(who, 3), BAD);
        Refusal.bounds("write(0, #)", 0, 3, (y, s) -> y.write(0, s), BAD);
        Refusal.in(State.NEW, "write(0, 0), LOST and no BUS: NULL first", y -> y.write(0, 0), NULL);
        Refusal.in(State.SOME, "write(2, 3), LOST", y -> y.write(2, 3), NULL);
        LongestMet none = with(1, 0, 3);
        for (int who = 0; who <= 2; who++) Due.is("write(" + who + ", 1), no BUS", none.write(who, 1), NOT);
        itemsAre(none, 1, 0, 1, 2, 3);
        Due.is("count(8): no FINDING", none.count(8), 0);
        Due.line(none, 0, "7");
        Due.is("write(1, 1), no such BUS", none.write(1, 1), NOT);
        itemsAre(none, 1, 0, 1, 2, 3);
        Due.is("write(0, 1)", none.write(0, 1), 3);
        itemsAre(none, 1, 0, 7, 6, 5);
        LongestMet empty = with(1, 0, 0);
        Due.is("write(0, 1), no BUS, no items", empty.write(0, 1), NOT);
    }
}
