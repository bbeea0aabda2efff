import java.io.IOException;
import java.nio.file.Files;
import java.nio.file.Path;

/** The boundary cases of a whole object: promises 1, 40 and 41, the refusals, the 512 calls, the parts of the interface. */
final class ObjectEdges {
    private static final int NONE = LongestMet.NONE, BAD = LongestMet.BAD, NOT = LongestMet.NOT, FULL = LongestMet.FULL;
    private static final long LONG_BAD = Refusal.LONG_BAD, LONG_NOT = Refusal.LONG_NOT;

    private ObjectEdges() {
    }

    static void run() throws IOException {
        calls();
        refusals();
        interfaceParts();
        promise1();
        promise40();
        promise40Findings();
        promise41();
        promise41Parts();
        partsAreApart();
    }

    private static void calls() {
        Due.by("What it is", "Whoever waits meets the long one: what is met by its size, and what there is truly.");
        LongestMet met = new LongestMet();
        Due.line(met, 0, "0,59");
        Due.is("met(0, 59): of two GAPS the long one is met by 59 of 60", met.met(0, 59), 59);
        Due.by("What it is", "An object is used for at most 512 calls after it has been made; what later calls answer is free.");
        LongestMet x = new LongestMet();
        for (int i = 1; i <= 255; i++) {
            Due.is("type(49), call " + (2 * i - 1), x.type('1'), 1);
            Due.is("wipe(), call " + 2 * i, x.wipe(), 1);
        }
        Due.is("piece(1), call 511", x.piece(1), 1);
        LongestMet once = new LongestMet();
        once.piece(1);
        Due.is("digest(), call 512", x.digest(), once.digest());
        LongestMet rows = new LongestMet();
        rows.sheet(0, 2, 60);
        for (int i = 2; i <= 511; i++) Due.is("put, call " + i, rows.put(0, 2, i % 60, i), 1);
        Due.is("get(0, 2, 31), call 512", rows.get(0, 2, 31), 511);
    }

    private static void refusals() {
        Due.by("Refusals", "Refusals, the first that fits, in the order told at each act: BAD -2 (a number not as told, no such thing), NULL, NOT -3 (as told), FULL -4, other FINDINGS.");
        Due.is("BAD", BAD, -2);
        Due.is("NOT", NOT, -3);
        Due.is("FULL", FULL, -4);
        LongestMet x = new LongestMet();
        Due.is("line(2), no TEXT: BAD, not NOT", x.line(2), BAD);
        Due.is("held(0, 6, 0), no BUS: BAD, not NOT", x.held(0, 6, 0), BAD);
        Due.is("read(4, 0): BAD, no such SHEET", x.read(4, 0), BAD);
        Due.is("read(0, -1), LOST: BAD, not NULL", x.read(0, -1), BAD);
        Due.is("takeBack(0, 0): BAD, no such ANSWER", x.takeBack(0, 0), BAD);
        Due.is("leaves(0, 0): BAD, no such STAY", x.leaves(0, 0), BAD);
        Due.is("hit(0, 1, 0): BAD, no such PIECE", x.hit(0, 1, 0), LONG_BAD);
        Due.is("write(3, 0), LOST, no BUS: BAD", x.write(3, 0), BAD);
        Due.is("write(0, 0), LOST, no BUS: NULL, not NOT", x.write(0, 0), Refusal.NULL);
        Due.is("put(0, 3, -1, 0), LOST: BAD, not NULL", x.put(0, 3, -1, 0), BAD);
        Due.is("sheet(0, 3, -1): BAD, not SIZE", x.sheet(0, 3, -1), BAD);
        Due.is("stick(0, 2, 0), no PIECES: BAD, not NOT", x.stick(0, 2, 0), LONG_BAD);
        Due.by("Refusals", "They change nothing (FINDINGS but count() 8).");
        Refusal.in(State.SOME, "takeBack(1, 999), already", y -> y.takeBack(1, 999), NOT);
        Refusal.in(State.FILLED, "asked(1, 999)", y -> y.asked(1, 999), FULL);
        Refusal.in(State.FILLED, "sheet(0, 2, -5)", y -> y.sheet(0, 2, -5), Refusal.SIZE);
        Refusal.in(State.SOME, "put(0, 2, 0, 1)", y -> y.put(0, 2, 0, 1), Refusal.CAST);
        Due.by("Refusals", "Where the answer is a long, a refusal -x is the least long and x more.");
        Due.is("gaps(3, 0, 0)", x.gaps(3, 0, 0), -9223372036854775806L);
        Due.is("gaps(0, 0, 0)", x.gaps(0, 0, 0), -9223372036854775805L);
        Due.is("chance(0, 0)", State.FILLED.make().chance(0, 0), -9223372036854775804L);
    }

    private static void interfaceParts() throws IOException {
        String[][] parts = {
            {"buses", "type", "wipe", "fault", "line", "waits", "met", "gaps", "held"},
            {"families", "asked", "read", "takeBack", "asOf", "said", "share", "size", "families", "chance", "likeliest"},
            {"wards", "stay", "leaves", "ward", "means", "fullest"},
            {"friends", "friends", "mean", "fewer", "picked", "best"},
            {"sticks", "piece", "snap", "hit", "stick"},
            {"sheets", "sheet", "lose", "put", "get", "copy", "write", "count", "digest"}};
        String source = Files.readString(Path.of("src/main/java/LongestMet.java"));
        int at = 0;
        for (String[] part : parts) {
            StringBuilder calls = new StringBuilder();
            for (int i = 1; i < part.length; i++) calls.append(i == 1 ? "`" : ", `").append(part[i]).append('`');
            Due.by("Interface", "Ahead of the calls " + calls + " the interface says: ---- " + part[0] + ".");
            for (int i = 0; i < part.length; i++) {
                String words = i == 0 ? "// ---- " + part[0] + "\n" : " " + part[i] + "(";
                int next = source.indexOf(i == 0 ? words : "    public", at);
                Due.isTrue(words + " stands in its place", next >= at && source.indexOf(words, next) - next < 20);
                at = next + 1;
            }
        }
    }

    private static void promise1() {
        Due.by("Promise 1", "No BUSES, nobody asked, nobody there, no FRIENDS, no STICK; all SHEETS are LOST.");
        LongestMet x = new LongestMet();
        for (int what = 0; what <= 8; what++) Due.is("count(" + what + ")", x.count(what), 0);
        for (int who = 0; who <= 2; who++) Due.is("waits(" + who + ", 0)", x.waits(who, 0), NOT);
        for (int line = 0; line <= 1; line++) Due.is("held(" + line + ", 0, NONE)", x.held(line, 0, NONE), NOT);
        for (int n = 1; n <= 8; n++) Due.is("said(" + n + ")", x.said(n), 0);
        Due.is("asked(1, 0): the first ANSWER may be told at 0", new LongestMet().asked(1, 0), 0);
        for (int day = 0; day <= 99; day++) Due.is("ward(" + day + ", " + day + ", 1)", x.ward(day, day, 1), 0);
        Due.is("leaves(0, 0)", x.leaves(0, 0), BAD);
        Due.is("mean(1, 0)", x.mean(1, 0), LONG_NOT);
        Due.is("stick(0, 1, 0)", x.stick(0, 1, 0), LONG_NOT);
        Due.is("wipe()", x.wipe(), 0);
        Due.is("snap()", x.snap(), 0);
        for (int s = 0; s <= 3; s++) Due.is("lose(" + s + ")", x.lose(s), Refusal.NULL);
        long before = new LongestMet().digest();
        State.FILLED.make();
        Due.is("digest() of a new one, behind a filled one", new LongestMet().digest(), before);
    }

    private static void countsAre(State state, int... due) {
        LongestMet x = state.make();
        for (int what = 0; what <= 8; what++) Due.is(state + ": count(" + what + ")", x.count(what), due[what]);
    }

    private static void promise40() {
        Due.by("Promise 40", "0, 1 BUSES of LINES, 2 bytes of the TEXT, 3 ANSWERS, 4 those that COUNT, 5 STAYS, 6 FRIENDSHIPS, 7 LENGTH of the STICK,");
        countsAre(State.NEW, 0, 0, 0, 0, 0, 0, 0, 0, 0);
        countsAre(State.SOME, 3, 4, 4, 4, 2, 3, 2, 11, 2);
        countsAre(State.FILLED, 60, 12, 40, 40, 38, 24, 28, 160, 5);
        for (int n = 0; n <= 8; n++) {
            int what = n;
            Refusal.asksOnly("count(" + what + ")", x -> x.count(what));
        }
        Due.by("Promise 40", "BAD.");
        Refusal.bounds("count(#)", 0, 8, (x, what) -> x.count(what), BAD);
    }

    private static void promise40Findings() {
        Due.by("Promise 40", "8 the number of the latest FINDING (0 before any).");
        LongestMet x = new LongestMet();
        Due.is("count(8), before any", x.count(8), 0);
        x.lose(4);
        x.get(0, 3, 0);
        x.line(0);
        x.sheet(0, 0, 61);
        Due.is("count(8): BAD and NOT are none", x.count(8), 0);
        x.lose(0);
        Due.is("count(8), NULL", x.count(8), 1);
        x.sheet(0, 0, 1);
        x.sheet(1, 1, 1);
        Due.is("count(8) stays", x.count(8), 1);
        x.get(0, 0, 1);
        Due.is("count(8), INDEX by get()", x.count(8), 2);
        x.put(0, 1, 0, 0);
        Due.is("count(8), CAST", x.count(8), 3);
        x.copy(0, 0, 1, 0, 1);
        Due.is("count(8), STORE", x.count(8), 4);
        x.sheet(0, 0, -1);
        Due.is("count(8), SIZE", x.count(8), 5);
        x.copy(0, 0, 0, 0, 2);
        Due.is("count(8), INDEX by copy()", x.count(8), 2);
        x.read(2, 0);
        Due.is("count(8), NULL by read()", x.count(8), 1);
        x.get(0, 2, 0);
        Due.is("count(8), CAST by get()", x.count(8), 3);
        x.write(0, 3);
        Due.is("count(8), NULL by write()", x.count(8), 1);
        x.lose(0);
        Due.is("count(8) stays when a SHEET is LOST", x.count(8), 1);
    }

    private static long then(long h, long next) {
        return 31 * h + next;
    }

    private static long both(long h, long above, long below) {
        return then(then(h, above), below);
    }

    private static void digestIs(String name, LongestMet x) {
        Due.is("digest() of " + name, x.digest(), toldBy(x));
    }

    private static void promise41() {
        Due.by("Promise 41", "h is 17; h becomes 31 h and each of (of each thing all that is told of it, then of the next one): count() 0 to 7;");
        Due.is("digest() of a new one", new LongestMet().digest(), toldOfNew());
        for (State state : State.values()) digestIs(state.toString(), state.make());
        LongestMet told = State.SOME.make();
        told.asOf(999);
        digestIs("one as of 999", told);
        Refusal.asksOnly("digest()", x -> x.digest());
        Due.by("Promise 41", "fault(); of WHO 0 to 2 gaps() 0 to 2, above and below each (as it is told); of LINES held(2, NONE) (as it is told);");
        LongestMet buses = new LongestMet();
        Due.line(buses, 1, "0,5,30");
        digestIs("LINE 1 alone", buses);
        Due.line(buses, 0, "0+5,1");
        Due.text(buses, "7,60");
        Due.is("held(0, 2, NONE)", buses.held(0, 2, NONE), FULL);
        Due.is("fault()", buses.fault(), 2);
        digestIs("13 BUSES and a FAULT", buses);
        Due.by("Promise 41", "size() 0, 1, above and below, likeliest() (as they are told);");
        LongestMet answers = new LongestMet();
        answers.families(2, 1, 9);
        for (int a = 0; a < 9; a++) {
            answers.asked(1, a);
            digestIs((a + 1) + " ANSWERS", answers);
        }
        Due.by("Promise 41", "ward(10, 30, 0 to 3), means(10, 30, 0 to 5), above and below each (as they are told);");
        int[][] stays = {{9, 9}, {31, 31}, {9, 10}, {10, 10}, {30, 31}, {30, 30}};
        LongestMet ward = new LongestMet();
        for (int[] stay : stays) {
            ward.stay(stay[0], stay[1]);
            digestIs("a STAY more from " + stay[0] + " to " + stay[1], ward);
        }
        Due.is("ward(10, 30, 2)", ward.ward(10, 30, 2), 4);
        promise41Ends();
    }

    private static void promise41Ends() {
        Due.by("Promise 41", "fullest() 0 to 2; mean() 0 to 2, above and below (as it is told);");
        LongestMet x = new LongestMet();
        x.stay(98, 99);
        x.stay(99, 99);
        digestIs("STAYS on the last DAYS", x);
        x.friends(6, 7, 1);
        digestIs("a FRIENDSHIP", x);
        Due.by("Promise 41", "fewer(), best(2, 0); stick() 0 to 2 with k 1, above and below (as it is told); as longs that wrap.");
        x.friends(5, 7, 1);
        Due.is("fewer()", x.fewer(), 32 | 64);
        Due.is("best(2, 0): 5 and 6 are less as bits than 0 and 7", x.best(2, 0), 32 | 64);
        digestIs("two FRIENDSHIPS", x);
        x.piece(3);
        digestIs("a PIECE", x);
        x.piece(8);
        digestIs("two PIECES", x);
    }

    /** All numbers of a new object, written out. */
    private static long toldOfNew() {
        long h = 17;
        for (int what = 0; what <= 7; what++) h = then(h, 0);
        h = then(h, 0);
        for (int i = 0; i < 18; i++) h = then(h, LONG_NOT);
        h = both(h, NOT, NOT);
        for (int i = 0; i < 4; i++) h = then(h, LONG_NOT);
        h = then(h, 0);
        for (int what = 0; what <= 2; what++) h = then(h, 0);
        h = then(h, NOT);
        for (int i = 0; i < 8; i++) h = then(h, LONG_NOT);
        for (int i = 0; i < 2; i++) h = both(h, 0, 1);
        for (int what = 0; what <= 2; what++) h = then(h, 0);
        h = both(h, 0, 1);
        h = both(h, LONG_NOT, LONG_NOT);
        h = both(h, 0, 1);
        h = both(h, 0, 3);
        for (int i = 0; i < 6; i++) h = then(h, LONG_NOT);
        return h;
    }

    private static long toldBy(LongestMet x) {
        long h = 17;
        for (int what = 0; what <= 7; what++) h = then(h, x.count(what));
        h = then(h, x.fault());
        for (int i = 0; i < 9; i++) h = both(h, x.gaps(i / 3, i % 3, 0), x.gaps(i / 3, i % 3, 1));
        h = both(h, x.held(0, 2, NONE), x.held(1, 2, NONE));
        for (int of = 0; of <= 1; of++) h = both(h, x.size(of, 0), x.size(of, 1));
        h = then(h, x.likeliest());
        for (int what = 0; what <= 3; what++) h = then(h, x.ward(10, 30, what));
        for (int which = 0; which <= 5; which++) h = both(h, x.means(10, 30, which, 0), x.means(10, 30, which, 1));
        for (int what = 0; what <= 2; what++) h = then(h, x.fullest(what));
        for (int which = 0; which <= 2; which++) h = both(h, x.mean(which, 0), x.mean(which, 1));
        h = both(h, x.fewer(), x.best(2, 0));
        for (int which = 0; which <= 2; which++) h = both(h, x.stick(which, 1, 0), x.stick(which, 1, 1));
        return h;
    }

    private static void promise41Parts() {
        Due.by("Promise 41", "count() 0 to 7;");
        LongestMet x = new LongestMet();
        x.lose(0);
        x.sheet(1, 0, 5);
        Due.is("digest(): count() 8 and SHEETS are not in it", x.digest(), new LongestMet().digest());
    }

    /** Each call that changes something leaves all else as it was, the latest FINDING too. */
    private static void partsAreApart() {
        State some = State.SOME;
        Due.by("Promise 2", "A byte (0 to 255) comes behind the TEXT: how many.");
        Refusal.changesOnly(some, "type(49)", x -> x.type('1'), 5, Seen.BUSES, Seen.DIGEST);
        Due.by("Promise 3", "The TEXT is empty: how many bytes it had.");
        Refusal.changesOnly(some, "wipe()", x -> x.wipe(), 4, Seen.BUSES, Seen.DIGEST);
        Due.by("Promise 5", "BUSES of a LINE are those of the TEXT alone: how many MINUTES (each once);");
        Refusal.changesOnly(State.FILLED, "line(0)", x -> x.line(0), 14, Seen.BUSES, Seen.DIGEST);
        Due.by("Promise 10", "An ANSWER more: its number.");
        Refusal.changesOnly(some, "asked(3, 20)", x -> x.asked(3, 20), 4, Seen.ANSWERS, Seen.TOWNS, Seen.DIGEST);
        Due.by("Promise 12", "An ANSWER is TAKEN BACK at a TIME: 1.");
        Refusal.changesOnly(some, "takeBack(0, 20)", x -> x.takeBack(0, 20), 1, Seen.ANSWERS, Seen.TOWNS, Seen.DIGEST);
        Due.by("Promise 13", "AS OF: what it was. BAD.");
        Refusal.changesOnly(some, "asOf(1)", x -> x.asOf(1), 15, Seen.ANSWERS, Seen.TOWNS, Seen.DIGEST);
        Due.by("Promise 17", "FAMILIES of n children of a TOWN: how many there were. BAD.");
        Refusal.changesOnly(some, "families(1, 2, 4)", x -> x.families(1, 2, 4), 3, Seen.TOWNS, Seen.DIGEST);
        Due.by("Promise 20", "A STAY more: its number.");
        Refusal.changesOnly(some, "stay(15, 30)", x -> x.stay(15, 30), 3, Seen.DAYS, Seen.STAYS, Seen.DIGEST);
        Due.by("Promise 21", "A STAY ends on another DAY: on which it did.");
        Refusal.changesOnly(some, "leaves(2, 28)", x -> x.leaves(2, 28), 40, Seen.DAYS, Seen.STAYS, Seen.DIGEST);
        Due.by("Promise 25", "Two persons are FRIENDS (v = 1), or not (0): what they were.");
        Refusal.changesOnly(some, "friends(2, 1, 0)", x -> x.friends(2, 1, 0), 1, Seen.FRIENDS, Seen.DIGEST);
        Refusal.changesOnly(some, "friends(2, 1, 1), as they are", x -> x.friends(2, 1, 1), 1);
        Due.by("Promise 30", "A PIECE more comes to the STICK: how many.");
        Refusal.changesOnly(some, "piece(20)", x -> x.piece(20), 3, Seen.STICK, Seen.DIGEST);
        Due.by("Promise 31", "The STICK has no PIECES: how many it had.");
        Refusal.changesOnly(some, "snap()", x -> x.snap(), 2, Seen.STICK, Seen.DIGEST);
        sheetsAreApart(some);
    }

    private static void sheetsAreApart(State some) {
        Due.by("Promise 11", "ANSWERS more, behind those that there are, at a TIME:");
        Refusal.changesOnly(some, "read(0, 999) of -128", x -> x.read(0, 999), 0);
        Due.by("Promise 34", "A SHEET is a new row of a FORM with n items: n.");
        Refusal.changesOnly(some, "sheet(3, 1, 7)", x -> x.sheet(3, 1, 7), 7, Seen.SHEETS);
        Due.by("Promise 35", "It is LOST: how many items it had.");
        Refusal.changesOnly(some, "lose(0)", x -> x.lose(0), 5, Seen.SHEETS);
        Due.by("Promise 36", "Item i, treated as of a FORM, becomes v (the lowest bits that it has, with its sign; by write(), too): 1.");
        Refusal.changesOnly(some, "put(0, 0, 0, 1)", x -> x.put(0, 0, 0, 1), 1, Seen.SHEETS);
        Refusal.changesOnly(some, "put(0, 0, 0, 128), as it is", x -> x.put(0, 0, 0, 128), 1);
        Due.by("Promise 38", "n items of SHEET s, from i on, come to SHEET t");
        Refusal.changesOnly(some, "copy(0, 0, 0, 1, 4)", x -> x.copy(0, 0, 0, 1, 4), 1, Seen.SHEETS);
        Refusal.changesOnly(some, "copy(0, 5, 0, 5, 0)", x -> x.copy(0, 5, 0, 5, 0), 1);
        Due.by("Promise 39", "WAITS of WHO comes at MINUTES 0 on come to a SHEET from item 0 on, as many as there are items: how many.");
        Refusal.changesOnly(some, "write(2, 0)", x -> x.write(2, 0), 5, Seen.SHEETS);
    }
}
