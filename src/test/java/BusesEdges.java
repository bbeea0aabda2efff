import java.util.regex.Matcher;
import java.util.regex.Pattern;

/** The boundary cases of part 1 of the terms (but for the sheets) and of promises 2 to 9. */
final class BusesEdges {
    private static final int NONE = LongestMet.NONE, BAD = LongestMet.BAD, NOT = LongestMet.NOT, FULL = LongestMet.FULL;
    /** 40 bytes, 14 numbers. */
    private static final String LONGEST = "10,11,12,13,14,15,16,17,18,19,20,21,22,3";

    private BusesEdges() {
    }

    static void run() {
        lines();
        texts();
        numbers();
        steps();
        faults();
        faultsOfAllShortTexts();
        waits();
        gaps();
        means();
        held();
        heldBorders();
        promise2();
        promise3();
        promise4();
        promise5();
        promise6();
        promise7();
        promise8();
        promise9();
    }

    private static LongestMet with(String text) {
        LongestMet x = new LongestMet();
        Due.text(x, text);
        return x;
    }

    private static LongestMet withLine(int line, String text) {
        LongestMet x = with(text);
        x.line(line);
        return x;
    }

    private static void faultIs(String text, int place) {
        LongestMet x = with(text);
        Due.is("fault() of '" + text + "'", x.fault(), place);
        int line = x.line(0);
        Due.isTrue("line(0) of '" + text + "'", place == NONE ? line > 0 : line == NOT);
    }

    private static void minutesAre(String text, int... minutes) {
        LongestMet x = with(text);
        Due.is("line(0) of '" + text + "'", x.line(0), minutes.length);
        boolean[] goes = new boolean[60];
        for (int m : minutes) goes[m] = true;
        for (int m = 0; m <= 59; m++) Due.isTrue("a bus at " + m + " of '" + text + "'", (x.waits(0, m) == 0) == goes[m]);
    }

    private static void lines() {
        Due.by("Terms 1", "BUSES of LINES 0, 1 go each hour at the same MINUTES (0 to 59).");
        LongestMet x = withLine(0, "0");
        Due.is("line(1) of 59", Due.line(x, 1, "59"), 1);
        Due.is("waits(0, 0)", x.waits(0, 0), 0);
        Due.is("waits(0, 1): the next hour's", x.waits(0, 1), 59);
        Due.is("waits(1, 59)", x.waits(1, 59), 0);
        Due.is("waits(1, 0): this hour's", x.waits(1, 0), 59);
        Refusal.outside("line(#)", 0, 1, (y, line) -> y.line(line), BAD);
        Due.by("Terms 1", "(At first no BUSES.)");
        LongestMet fresh = new LongestMet();
        for (int line = 0; line <= 1; line++) Due.is("count(" + line + ")", fresh.count(line), 0);
        for (int who = 0; who <= 2; who++) Due.is("waits(" + who + ", 0)", fresh.waits(who, 0), NOT);
        Due.by("Terms 1", "WHO (0, 1: who takes that LINE; 2: who takes either):");
        Due.is("waits(0, 30)", x.waits(0, 30), 30);
        Due.is("waits(1, 30)", x.waits(1, 30), 29);
        Due.is("waits(2, 30)", x.waits(2, 30), 29);
        for (int line = 0; line <= 1; line++) {
            LongestMet one = withLine(line, "7");
            Due.is("waits(2, 0), line " + line + " alone", one.waits(2, 0), 7);
            Due.is("waits of the other", one.waits(1 - line, 0), NOT);
        }
        Refusal.outside("waits(#, 0)", 0, 2, (y, who) -> y.waits(who, 0), BAD);
    }

    private static void texts() {
        Due.by("Terms 1", "A LINE is told by a TEXT of up to 40 bytes:");
        LongestMet x = with(LONGEST);
        Due.is("count(2)", x.count(2), 40);
        Due.is("type, the 41st", x.type(','), FULL);
        Due.is("fault() of 40 bytes, the 41st is not there", x.fault(), NONE);
        Due.is("line(0) of 40 bytes", x.line(0), 14);
        Due.is("the last byte tells", x.waits(0, 3), 0);
        Due.is("fault() at the 40th byte", with(LONGEST.substring(0, 39) + ";").fault(), 39);
        Due.is("fault() at the end of 40 bytes", with("1," + LONGEST.substring(0, 36) + "9,").fault(), 40);
        Due.by("Terms 1", "parts with , between them:");
        minutesAre("4", 4);
        minutesAre("4,6", 4, 6);
        minutesAre("4+50,6", 4, 6, 54);
        minutesAre("6,4+50", 4, 6, 54);
        minutesAre("0,1,2,3,4,5,6,7,8,9,0,1,2,3,4,5,6,7,8,9", 0, 1, 2, 3, 4, 5, 6, 7, 8, 9);
        faultIs(",4", 0);
        faultIs("4,", 2);
        faultIs("4,,6", 2);
        faultIs("4;6", 1);
        faultIs("4 ,6", 1);
        faultIs("4, 6", 2);
    }

    private static void numbers() {
        Due.by("Terms 1", "a number (one or two figures, 0 to 59): a MINUTE;");
        for (int m = 0; m <= 59; m++) minutesAre("" + m, m);
        for (int m = 0; m <= 9; m++) minutesAre("0" + m, m);
        for (int m = 60; m <= 99; m++) faultIs("" + m, 0);
        faultIs("000", 2);
        faultIs("059", 2);
        faultIs("590", 2);
        faultIs("-1", 0);
        faultIs("4,60", 2);
        faultIs("4,59", NONE);
        // the bytes next to the figures
        faultIs("/", 0);
        faultIs(":", 0);
        faultIs("1/", 1);
        faultIs("1:", 1);
    }

    private static void steps() {
        Due.by("Terms 1", "or a number, +, a number (1 to 59): from that MINUTE on, each so many MINUTES, up to 59.");
        minutesAre("58+1", 58, 59);
        minutesAre("59+1", 59);
        minutesAre("0+59", 0, 59);
        minutesAre("1+59", 1);
        minutesAre("0+58", 0, 58);
        minutesAre("1+58", 1, 59);
        minutesAre("2+58", 2);
        minutesAre("0+30", 0, 30);
        minutesAre("29+30", 29, 59);
        minutesAre("30+30", 30);
        minutesAre("50+03", 50, 53, 56, 59);
        minutesAre("51+03", 51, 54, 57);
        Due.is("line(0) of 0+1", with("0+1").line(0), 60);
        Due.is("line(0) of 1+1", with("1+1").line(0), 59);
        for (int step = 1; step <= 59; step++) Due.is("line(0) of 0+" + step, with("0+" + step).line(0), 59 / step + 1);
        faultIs("5+0", 2);
        faultIs("5+00", 2);
        for (int step = 60; step <= 99; step++) faultIs("5+" + step, 2);
        faultIs("05+60", 3);
        faultIs("60+5", 0);
        faultIs("59+59", NONE);
        faultIs("5+-1", 2);
        faultIs("5+3+3", 3);
    }

    private static void faults() {
        Due.by("Terms 1", "The FAULT is the place of the first byte with which it cannot go on");
        faultIs(";", 0);
        faultIs("+", 0);
        faultIs("5;", 1);
        faultIs("55;", 2);
        faultIs("555", 2);
        faultIs("5++", 2);
        faultIs("5+,", 2);
        faultIs("5+6;", 3);
        faultIs("5+55;", 4);
        faultIs("5+555", 4);
        faultIs("5+6+", 3);
        faultIs("5,;", 2);
        faultIs("5,+", 2);
        faultIs("5;60", 1);
        for (int b = 0; b <= 255; b++) {
            boolean figure = b >= '0' && b <= '9';
            faultIs("" + (char) b, figure ? NONE : 0);
            faultIs("5" + (char) b, figure || b == ',' || b == '+' ? figure ? NONE : 2 : 1);
        }
        Due.by("Terms 1", "(of one that is not ended, its end: of an empty TEXT 0),");
        faultIs("", 0);
        faultIs("5,", 2);
        faultIs("5+", 2);
        faultIs("59+", 3);
        faultIs("5,6+", 4);
        faultIs("5+6,", 4);
        Due.by("Terms 1", "or of the first figure of a number that may not be.");
        faultIs("60", 0);
        faultIs("6", NONE);
        faultIs("5,60", 2);
        faultIs("5,6", NONE);
        faultIs("5+60", 2);
        faultIs("5+6", NONE);
        faultIs("5+0", 2);
        faultIs("5+01", NONE);
        faultIs("60;", 0);
        faultIs("600", 0);
        faultIs("60,99", 0);
        faultIs("5+60;", 2);
        faultIs("5+00,60", 2);
    }

    /** By another way: where no text of the form goes on so, or where a number stands that may not be, whichever is first. */
    private static void faultsOfAllShortTexts() {
        Due.by("Terms 1", "The FAULT is the place of the first byte with which it cannot go on");
        String signs = "0169+,;";
        int texts = 1;
        for (int length = 0; length <= 5; length++) {
            for (int t = 0; t < texts; t++) {
                StringBuilder text = new StringBuilder();
                for (int i = 0, rest = t; i < length; i++, rest /= signs.length()) text.append(signs.charAt(rest % signs.length()));
                Due.is("fault() of '" + text + "'", with(text.toString()).fault(), faultByForm(text.toString()));
            }
            texts *= signs.length();
        }
    }

    private static int faultByForm(String text) {
        Pattern form = Pattern.compile("\\d\\d?(\\+\\d\\d?)?(,\\d\\d?(\\+\\d\\d?)?)*");
        int goesOn = text.length() + 1;
        while (goesOn > 0 && !canGoOn(form, text.substring(0, Math.min(goesOn, text.length())))) goesOn--;
        int fault = goesOn < text.length() ? goesOn : form.matcher(text).matches() ? NONE : text.length();
        Matcher number = Pattern.compile("(\\+?)(\\d\\d?)").matcher(text);
        while (number.find()) {
            int n = Integer.parseInt(number.group(2));
            boolean may = n <= 59 && (number.group(1).isEmpty() || n >= 1);
            if (!may && (fault == NONE || number.start(2) < fault)) return number.start(2);
        }
        return fault;
    }

    private static boolean canGoOn(Pattern form, String text) {
        Matcher matcher = form.matcher(text);
        return matcher.matches() || matcher.hitEnd();
    }

    private static void waits() {
        Due.by("Terms 1", "comes to the stop at each of 60 MINUTES alike, and takes the first BUS of that MINUTE or later (of the next hour, too): WAIT: MINUTES until then.");
        LongestMet x = withLine(0, "0,58");
        Due.is("waits(0, 0): of that MINUTE", x.waits(0, 0), 0);
        Due.is("waits(0, 1): later", x.waits(0, 1), 57);
        Due.is("waits(0, 57)", x.waits(0, 57), 1);
        Due.is("waits(0, 58)", x.waits(0, 58), 0);
        Due.is("waits(0, 59): of the next hour", x.waits(0, 59), 1);
        for (int goes = 0; goes <= 59; goes++) {
            LongestMet one = withLine(1, "" + goes);
            for (int m = 0; m <= 59; m++) Due.is("waits(1, " + m + ") of " + goes, one.waits(1, m), m <= goes ? goes - m : 60 + goes - m);
        }
    }

    private static void gaps() {
        Due.by("Terms 1", "GAPS: MINUTES from each MINUTE at which some such BUS goes to the next one (round the hour; of one alone 60).");
        LongestMet x = withLine(0, "1,58");
        Due.is("met(0, 57)", x.met(0, 57), 57);
        Due.is("met(0, 3): round the hour", x.met(0, 3), 3);
        Due.line(x, 1, "58");
        Due.is("met(1, 60): of one alone", x.met(1, 60), 60);
        Due.is("met(1, 59)", x.met(1, 59), 0);
        Due.is("gaps(2, 0, 0): both lines at 58 are one MINUTE", x.gaps(2, 0, 0), 30);
        Due.is("gaps(2, 0, 1)", x.gaps(2, 0, 1), 1);
        Due.line(x, 0, "58");
        Due.is("met(2, 60): of two at one MINUTE", x.met(2, 60), 60);
        Due.line(x, 0, "0,59");
        Due.is("met(0, 1): the least GAP, round the hour", x.met(0, 1), 1);
        Due.is("met(0, 59)", x.met(0, 59), 59);
        Due.by("Terms 1", "MET g: by how many of 60 a GAP of g MINUTES is met.");
        Due.line(x, 0, "0,10,20,40");
        Due.is("met(0, 10): two of them", x.met(0, 10), 20);
        Due.is("met(0, 20): two of them", x.met(0, 20), 40);
        int all = 0;
        for (int g = 1; g <= 60; g++) all += x.met(0, g);
        Due.is("all that are met", all, 60);
    }

    private static void fractionIs(String name, LongestMet x, int who, int which, long above, long below) {
        Due.is(name + " gaps(" + who + ", " + which + ", 0)", x.gaps(who, which, 0), above);
        Due.is(name + " gaps(" + who + ", " + which + ", 1)", x.gaps(who, which, 1), below);
    }

    private static void means() {
        LongestMet one = withLine(0, "59");
        LongestMet all = withLine(0, "0+1");
        LongestMet two = withLine(0, "0,59");
        Due.by("Terms 1", "MEAN of GAPS (each alike),");
        fractionIs("one", one, 0, 0, 60, 1);
        fractionIs("two", two, 0, 0, 30, 1);
        fractionIs("all", all, 0, 0, 1, 1);
        fractionIs("eight", withLine(0, "0,1,2,3,4,5,6,7"), 0, 0, 15, 2);
        Due.by("Terms 1", "MEAN of GAPS that are MET (by each MINUTE at which one comes; a MINUTE at which a BUS goes belongs to the GAP ahead of it),");
        fractionIs("one", one, 0, 1, 60, 1);
        // 59 times 59 and once 1 of 60
        fractionIs("two", two, 0, 1, 1741, 30);
        fractionIs("all", all, 0, 1, 1, 1);
        Due.by("Terms 1", "MEAN of WAITS;");
        fractionIs("one", one, 0, 2, 59, 2);
        // 0 to 58 within the hour, and 0
        fractionIs("two", two, 0, 2, 1711, 60);
        Due.by("Terms 1", "FRACTIONS are told in lowest terms, above and below (0 by 1).");
        fractionIs("all, none waits", all, 0, 2, 0, 1);
        fractionIs("three, 60 by 3", withLine(0, "0,5,30"), 0, 0, 20, 1);
        fractionIs("three, 1550 by 60", withLine(0, "0,5,30"), 0, 1, 155, 6);
    }

    private static void heldIs(String text, int h, int together, int... later) {
        LongestMet x = withLine(1, text);
        Due.is("held(1, " + h + ", NONE) of " + text, x.held(1, h, NONE), together);
        for (int i = 0; i < later.length; i++) Due.is("held(1, " + h + ", " + i + ") of " + text, x.held(1, h, i), later[i]);
        Due.is("held(1, " + h + ", " + later.length + ") of " + text, x.held(1, h, later.length), NOT);
    }

    private static void held() {
        Due.by("Terms 1", "HELD: each BUS of a LINE (12 at most: FULL)");
        heldIs("0+5", 0, 120, 0, 0, 0, 0, 0, 0, 0, 0, 0, 0, 0, 0);
        LongestMet x = withLine(0, "0+5,1");
        Due.is("count(0)", x.count(0), 13);
        Due.is("held(0, 0, NONE) of 13", x.held(0, 0, NONE), FULL);
        Due.is("held(0, 0, 0) of 13", x.held(0, 0, 0), FULL);
        Due.by("Terms 1", "may go up to h MINUTES (0 to 5) later,");
        // the gaps ahead of and behind the second one would be even by 20 more
        for (int h = 0; h <= 5; h++) {
            int ahead = 10 + h;
            int behind = 50 - h;
            heldIs("0,10", h, ahead * (ahead - 1) / 2 + behind * (behind - 1) / 2, 0, h);
        }
        Refusal.bounds("held(0, #, NONE)", 0, 5, (y, h) -> y.held(0, h, NONE), BAD);
        Due.by("Terms 1", "so that all WAITS of who takes it, from 60 MINUTES, are together least;");
        heldIs("0,5,30", 5, 645, 0, 5, 5);
        heldIs("10,30,59", 5, 586, 5, 5, 0);
        heldIs("0,31", 5, 29 * 30, 1, 0);
        heldIs("0,29", 5, 29 * 30, 0, 1);
        heldIs("1,30", 5, 29 * 30, 0, 1);
        heldIs("1,32", 5, 29 * 30, 1, 0);
        Due.by("Terms 1", "of like ones the least row of by how much (the first BUS of the hour first);");
        heldIs("30", 5, 1770, 0);
        heldIs("0,30", 5, 870, 0, 0);
        heldIs("0,20,40", 5, 570, 0, 0, 0);
        // 0, 1 and 1, 2 are alike
        heldIs("0,29", 2, 870, 0, 1);
        // gaps 20, 21, 19 by 0, 1, 0 and 19, 21, 20 by 1, 1, 0 are alike; none is better
        heldIs("0,19,41", 1, 571, 0, 1, 0);
        Due.by("Terms 1", "all WAITS together then.");
        heldIs("59", 0, 1770, 0);
        heldIs("59", 5, 1770, 0);
        heldIs("0,59", 0, 1711, 0, 0);
    }

    private static void heldBorders() {
        Due.by("Terms 1", "none as late as the next one goes then");
        // each would go 5 later but for the next one
        heldIs("0,1", 1, 1654, 0, 1);
        heldIs("57,58,59", 5, 57 * 58 / 2, 0, 0, 0);
        heldIs("0,1,2,3,4,5,6,7,8,9,10,11", 5, 951, 0, 0, 0, 0, 0, 0, 0, 1, 2, 3, 4, 5);
        Due.by("Terms 1", "(none beyond 59):");
        heldIs("58,59", 5, 1711, 0, 0);
        heldIs("57,58", 5, 1654, 0, 1);
        heldIs("0,59", 5, 53 * 54 / 2 + 5 * 6 / 2, 5, 0);
    }

    private static void promise2() {
        Due.by("Promise 2", "A byte (0 to 255) comes behind the TEXT: how many.");
        LongestMet x = new LongestMet();
        Due.is("type(0)", x.type(0), 1);
        Due.is("type(255)", x.type(255), 2);
        for (int n = 3; n <= 40; n++) Due.is("type, byte " + n, x.type('1'), n);
        LongestMet y = with("1");
        Due.is("type(50), behind", y.type('2'), 2);
        Due.is("line(0) of 12", y.line(0), 1);
        Due.is("waits(0, 12)", y.waits(0, 12), 0);
        Refusal.bounds("type(#)", 0, 255, (z, b) -> z.type(b), BAD);
        Due.by("Promise 2", "BAD; FULL.");
        Refusal.in(State.FILLED, "type(0), the 41st", z -> z.type(0), FULL);
        Refusal.in(State.FILLED, "type(255), the 41st", z -> z.type(255), FULL);
        Refusal.in(State.FILLED, "type(256), the 41st: BAD first", z -> z.type(256), BAD);
        Refusal.in(State.FILLED, "type(-1), the 41st: BAD first", z -> z.type(-1), BAD);
        Due.is("type behind wipe() of a full one", typeBehindWipe(), 1);
    }

    private static int typeBehindWipe() {
        LongestMet x = State.FILLED.make();
        x.wipe();
        return x.type('1');
    }

    private static void promise3() {
        Due.by("Promise 3", "The TEXT is empty: how many bytes it had.");
        for (int n = 0; n <= 40; n++) {
            LongestMet x = with(LONGEST.substring(0, n));
            Due.is("wipe() of " + n, x.wipe(), n);
            Due.is("count(2) behind it", x.count(2), 0);
            Due.is("fault() behind it", x.fault(), 0);
            Due.is("wipe() again", x.wipe(), 0);
        }
        LongestMet full = State.FILLED.make();
        full.type('1');
        Due.is("wipe() behind a refused byte", full.wipe(), 40);
        Due.is("count(0): BUSES stay", full.count(0), 60);
    }

    private static void promise4() {
        Due.by("Promise 4", "The FAULT; NONE.");
        Due.is("fault() of ''", with("").fault(), 0);
        Due.is("fault() of 0", with("0").fault(), NONE);
        Due.is("fault() of 40 bytes", with(LONGEST).fault(), NONE);
        Due.is("fault() of 39 bytes", with(LONGEST.substring(0, 39)).fault(), 39);
        Refusal.asksOnly("fault()", x -> x.fault());
    }

    private static void promise5() {
        Due.by("Promise 5", "BUSES of a LINE are those of the TEXT alone: how many MINUTES (each once);");
        LongestMet x = withLine(0, "1,2,3");
        Due.is("line(0) of 2", Due.line(x, 0, "2"), 1);
        Due.is("count(0): those of before are not there", x.count(0), 1);
        Due.is("waits(0, 3)", x.waits(0, 3), 59);
        Due.is("line(0) of 7,07,7", Due.line(x, 0, "7,07,7"), 1);
        Due.is("line(0) of 0+1,5,0+30", Due.line(x, 0, "0+1,5,0+30"), 60);
        Due.is("line(1) of 59,0", Due.line(x, 1, "59,0"), 2);
        Due.is("count(0): the other LINE stays", x.count(0), 60);
        Due.by("Promise 5", "the TEXT is empty then.");
        Due.is("count(2)", x.count(2), 0);
        Due.is("fault()", x.fault(), 0);
        Due.is("wipe()", x.wipe(), 0);
        Due.is("line(0) again", x.line(0), NOT);
        Due.by("Promise 5", "BAD; NOT: a FAULT.");
        Refusal.outside("line(#)", 0, 1, (y, line) -> y.line(line), BAD);
        for (int n = 0; n <= 1; n++) {
            int line = n;
            Refusal.in(State.NEW, "line(" + line + ") of no TEXT", y -> y.line(line), NOT);
            Refusal.in(State.SOME, "line(" + line + ") of '5+7,'", y -> y.line(line), NOT);
        }
        Due.is("line(2) of a FAULT: BAD first", with(";").line(2), BAD);
        Due.is("line(2) of none", with("").line(2), BAD);
        Due.is("line(2) of no FAULT", with("1").line(2), BAD);
    }

    private static void promise6() {
        Due.by("Promise 6", "WAIT of WHO comes at a MINUTE.");
        LongestMet x = withLine(0, "30");
        Due.is("waits(0, 0)", x.waits(0, 0), 30);
        Due.is("waits(0, 30)", x.waits(0, 30), 0);
        Due.is("waits(0, 31)", x.waits(0, 31), 59);
        Due.is("waits(2, 59)", x.waits(2, 59), 31);
        Due.by("Promise 6", "BAD; NOT: no such BUS.");
        Refusal.bounds("waits(#, 0)", 0, 2, (y, who) -> y.waits(who, 0), BAD);
        Refusal.bounds("waits(2, #)", 0, 59, (y, minute) -> y.waits(2, minute), BAD);
        for (int n = 0; n <= 2; n++) {
            int who = n;
            Refusal.in(State.NEW, "waits(" + who + ", 0)", y -> y.waits(who, 0), NOT);
            Refusal.in(State.NEW, "waits(" + who + ", 59)", y -> y.waits(who, 59), NOT);
            Refusal.asksOnly("waits(" + who + ", 17)", y -> y.waits(who, 17));
        }
        Due.is("waits(1, 0), line 0 alone", x.waits(1, 0), NOT);
    }

    private static void promise7() {
        Due.by("Promise 7", "MET g (1 to 60). BAD.");
        LongestMet x = withLine(0, "0+1");
        Due.is("met(0, 1)", x.met(0, 1), 60);
        Due.is("met(0, 60)", x.met(0, 60), 0);
        Due.line(x, 0, "0");
        Due.is("met(0, 1)", x.met(0, 1), 0);
        Due.is("met(0, 60)", x.met(0, 60), 60);
        for (int g = 1; g <= 60; g++) Due.is("met(1, " + g + "), no such BUS", x.met(1, g), 0);
        Refusal.bounds("met(0, #)", 1, 60, (y, g) -> y.met(0, g), BAD);
        Refusal.bounds("met(#, 1)", 0, 2, (y, who) -> y.met(who, 1), BAD);
        Refusal.asksOnly("met(2, 5)", y -> y.met(2, 5));
    }

    private static void promise8() {
        Due.by("Promise 8", "MEAN of GAPS (which = 0), of GAPS that are MET (1), of WAITS (2): above, below.");
        LongestMet x = withLine(0, "0,5,30");
        fractionIs("three", x, 0, 0, 20, 1);
        fractionIs("three", x, 0, 1, 155, 6);
        fractionIs("three", x, 0, 2, 149, 12);
        Due.by("Promise 8", "BAD; NOT: no such BUS. (A refusal -x is the least long and x more.)");
        Due.is("BAD as a long", Refusal.LONG_BAD, Long.MIN_VALUE + 2);
        Due.is("NOT as a long", Refusal.LONG_NOT, Long.MIN_VALUE + 3);
        Refusal.bounds("gaps(#, 0, 0)", 0, 2, (y, who) -> y.gaps(who, 0, 0), Refusal.LONG_BAD);
        Refusal.bounds("gaps(0, #, 0)", 0, 2, (y, which) -> y.gaps(0, which, 0), Refusal.LONG_BAD);
        Refusal.bounds("gaps(0, 0, #)", 0, 1, (y, what) -> y.gaps(0, 0, what), Refusal.LONG_BAD);
        for (int n = 0; n < 18; n++) {
            int who = n / 6, which = n / 2 % 3, what = n % 2;
            String name = "gaps(" + who + ", " + which + ", " + what + ")";
            Refusal.in(State.NEW, name, y -> y.gaps(who, which, what), Refusal.LONG_NOT);
            Refusal.asksOnly(name, y -> y.gaps(who, which, what));
        }
        Due.is("gaps(1, 0, 0), line 0 alone", x.gaps(1, 0, 0), Refusal.LONG_NOT);
        fractionIs("either, line 0 alone", x, 2, 0, 20, 1);
    }

    private static void promise9() {
        Due.by("Promise 9", "HELD: by how much the i-th BUS of a LINE goes later (i 0 to 59);");
        LongestMet x = withLine(0, "0,5,30");
        Due.line(x, 1, "10,30,59");
        Due.is("held(0, 5, 0)", x.held(0, 5, 0), 0);
        Due.is("held(1, 5, 0)", x.held(1, 5, 0), 5);
        Due.is("held(0, 5, 2)", x.held(0, 5, 2), 5);
        Due.is("held(1, 5, 2)", x.held(1, 5, 2), 0);
        Refusal.bounds("held(1, 0, #)", -1, 59, (y, i) -> y.held(1, 0, i), BAD);
        Due.by("Promise 9", "all WAITS together (i = NONE).");
        Due.is("held(0, 5, NONE)", x.held(0, 5, NONE), 645);
        Due.is("held(1, 5, NONE)", x.held(1, 5, NONE), 586);
        Due.is("held(0, 0, NONE): as gaps(0, 2) by 60", x.held(0, 0, NONE), 745);
        Due.by("Promise 9", "BAD; NOT: it has none, there is no i-th; FULL, ahead of the latter.");
        Refusal.bounds("held(#, 0, NONE)", 0, 1, (y, line) -> y.held(line, 0, NONE), BAD);
        Refusal.bounds("held(1, #, 0)", 0, 5, (y, h) -> y.held(1, h, 0), BAD);
        for (int i : new int[] {NONE, 0, 59}) {
            Refusal.in(State.NEW, "held(0, 5, " + i + "), it has none", y -> y.held(0, 5, i), NOT);
            Refusal.in(State.FILLED, "held(0, 5, " + i + ") of 60", y -> y.held(0, 5, i), FULL);
        }
        Refusal.in(State.SOME, "held(0, 5, 3), no i-th", y -> y.held(0, 5, 3), NOT);
        Refusal.in(State.SOME, "held(0, 5, 59), no i-th", y -> y.held(0, 5, 59), NOT);
        Refusal.in(State.FILLED, "held(1, 5, 12) of 12, no i-th", y -> y.held(1, 5, 12), NOT);
        Due.is("held(1, 5, 11) of 12", State.FILLED.make().held(1, 5, 11), 0);
        Due.is("held(0, 5, 13) of 13: FULL ahead of no i-th", withLine(0, "0+5,1").held(0, 5, 13), FULL);
        Due.is("held(0, 6, 13) of 13: BAD first", withLine(0, "0+5,1").held(0, 6, 13), BAD);
        Refusal.asksOnly("held(1, 5, NONE)", y -> y.held(1, 5, NONE));
        Refusal.asksOnly("held(1, 5, 2)", y -> y.held(1, 5, 2));
    }
}
