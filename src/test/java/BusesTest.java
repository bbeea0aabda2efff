/** Promises 2 to 9. */
public final class BusesTest {
    private static final int[] WRONG_WHO = {-1, 3, Integer.MIN_VALUE, Integer.MAX_VALUE};

    public static void main(String[] args) {
        promise2Type();
        promise3Wipe();
        promise4Fault();
        promise5Line();
        promise6Waits();
        promise7Met();
        promise8Gaps();
        promise9Held();
        promise9HeldOfAllRows();
        promise9HeldRefuses();
        Due.end();
    }

    private static void promise2Type() {
        LongestMet x = new LongestMet();
        Due.is("type(-1)", x.type(-1), LongestMet.BAD);
        Due.is("type(256)", x.type(256), LongestMet.BAD);
        Due.is("type(0)", x.type(0), 1);
        Due.is("type(255)", x.type(255), 2);
        for (int n = 3; n <= 40; n++) Due.is("type, the " + n + "th", x.type('1'), n);
        Due.is("type, the 41st", x.type('1'), LongestMet.FULL);
        Due.is("type(256), full", x.type(256), LongestMet.BAD);
        Due.is("count(2), full", x.count(2), 40);
    }

    private static void promise3Wipe() {
        LongestMet x = new LongestMet();
        Due.is("wipe of none", x.wipe(), 0);
        for (int n = 1; n <= 40; n++) x.type('7');
        Due.is("wipe of 40", x.wipe(), 40);
        Due.is("wipe again", x.wipe(), 0);
        Due.is("type behind wipe", x.type('7'), 1);
        Due.is("fault behind wipe", x.fault(), LongestMet.NONE);
    }

    private static void promise4Fault() {
        faultIs("", 0);
        faultIs("0", LongestMet.NONE);
        faultIs("00", LongestMet.NONE);
        faultIs("59", LongestMet.NONE);
        faultIs("60", 0);
        faultIs("99", 0);
        faultIs("601", 0);
        faultIs("60;", 0);
        faultIs("000", 2);
        faultIs("123", 2);
        faultIs("1;", 1);
        faultIs(";", 0);
        faultIs(",", 0);
        faultIs("+", 0);
        faultIs("+5", 0);
        faultIs("5+", 2);
        faultIs("5+,", 2);
        faultIs("5++", 2);
        faultIs("5+0", 2);
        faultIs("5+00", 2);
        faultIs("5+01", LongestMet.NONE);
        faultIs("5+1", LongestMet.NONE);
        faultIs("59+59", LongestMet.NONE);
        faultIs("5+60", 2);
        faultIs("5+600", 2);
        faultIs("5+123", 4);
        faultIs("60+1", 0);
        faultIs("60+0", 0);
        faultIs("1+2+3", 3);
        faultIs("1,", 2);
        faultIs("1,,2", 2);
        faultIs("1,2,", 4);
        faultIs("1,60", 2);
        faultIs("1,2+60,99", 4);
        faultIs("10,20,30:", 8);
        faultIs("1 ,2", 1);
        faultIs("1, 2", 2);
        faultIs("-1", 0);
        faultIs("1/", 1);
        faultIs("1:", 1);
        faultIs("1" + (char) 0, 1);
        faultIs("1" + (char) 255, 1);
        faultIs("0,1,2,3,4,5,6,7,8,9,0,1,2,3,4,5,6,7,8,9", LongestMet.NONE);
        faultIs("0,1,2,3,4,5,6,7,8,9,0,1,2,3,4,5,6,7,8,9,", 40);
    }

    private static void faultIs(String text, int place) {
        LongestMet x = new LongestMet();
        Due.text(x, text);
        Due.is("fault of \"" + text + "\"", x.fault(), place);
        Due.is("fault of \"" + text + "\" again", x.fault(), place);
        Due.is("bytes of \"" + text + "\"", x.count(2), text.length());
        if (place == LongestMet.NONE) return;
        Due.is("line of \"" + text + "\"", x.line(0), LongestMet.NOT);
        Due.is("bytes of \"" + text + "\" then", x.count(2), text.length());
    }

    private static void promise5Line() {
        LongestMet x = new LongestMet();
        Due.is("line 0,5,30", Due.line(x, 0, "0,5,30"), 3);
        Due.is("count(2) behind line", x.count(2), 0);
        Due.is("fault behind line", x.fault(), 0);
        Due.is("line of no text", x.line(0), LongestMet.NOT);
        Due.is("count(0)", x.count(0), 3);
        Due.is("count(1)", x.count(1), 0);
        Due.is("line 7,07,7", Due.line(x, 0, "7,07,7"), 1);
        Due.is("waits(0, 8): of that text alone", x.waits(0, 8), 59);
        Due.is("line 59+1", Due.line(x, 0, "59+1"), 1);
        Due.is("line 0+59", Due.line(x, 0, "0+59"), 2);
        Due.is("line 1+59", Due.line(x, 0, "1+59"), 1);
        Due.is("line 0+1", Due.line(x, 0, "0+1"), 60);
        Due.is("line 10+25,10,35,36", Due.line(x, 1, "10+25,10,35,36"), 3);
        Due.is("count(0)", x.count(0), 60);
        Due.is("count(1)", x.count(1), 3);
        Due.text(x, "1");
        Due.is("line(-1)", x.line(-1), LongestMet.BAD);
        Due.is("line(2)", x.line(2), LongestMet.BAD);
        Due.text(x, ";");
        Due.is("line(2) of a fault", x.line(2), LongestMet.BAD);
        Due.is("line(1) of a fault", x.line(1), LongestMet.NOT);
        Due.is("count(1) then", x.count(1), 3);
        Due.is("count(2) then", x.count(2), 2);
    }

    private static void promise6Waits() {
        LongestMet x = new LongestMet();
        Due.is("waits, no bus", x.waits(2, 0), LongestMet.NOT);
        Due.line(x, 0, "10,50");
        Due.is("waits(1, 0): none of that line", x.waits(1, 0), LongestMet.NOT);
        int[] minutes = {0, 10, 11, 50, 51, 59};
        int[] waits = {10, 0, 39, 0, 19, 11};
        for (int i = 0; i < minutes.length; i++) {
            Due.is("waits(0, " + minutes[i] + ")", x.waits(0, minutes[i]), waits[i]);
            Due.is("waits(2, " + minutes[i] + ")", x.waits(2, minutes[i]), waits[i]);
        }
        Due.line(x, 1, "12");
        Due.is("waits(0, 11)", x.waits(0, 11), 39);
        Due.is("waits(1, 11)", x.waits(1, 11), 1);
        Due.is("waits(2, 11)", x.waits(2, 11), 1);
        Due.is("waits(1, 13)", x.waits(1, 13), 59);
        Due.is("waits(0, -1)", x.waits(0, -1), LongestMet.BAD);
        Due.is("waits(0, 60)", x.waits(0, 60), LongestMet.BAD);
        for (int who : WRONG_WHO) Due.is("waits(" + who + ", 0)", x.waits(who, 0), LongestMet.BAD);
        Due.is("BAD ahead of NOT", new LongestMet().waits(0, 60), LongestMet.BAD);
    }

    private static void promise7Met() {
        LongestMet x = new LongestMet();
        Due.is("met, no bus", x.met(0, 60), 0);
        Due.line(x, 0, "0,10,20,45");
        Due.line(x, 1, "45");
        Due.is("met(0, 10)", x.met(0, 10), 20);
        Due.is("met(0, 25)", x.met(0, 25), 25);
        Due.is("met(0, 15)", x.met(0, 15), 15);
        Due.is("met(0, 11)", x.met(0, 11), 0);
        Due.is("met(1, 60)", x.met(1, 60), 60);
        Due.is("met(2, 10)", x.met(2, 10), 20);
        Due.line(x, 1, "0+1");
        Due.is("met(1, 1)", x.met(1, 1), 60);
        Due.is("met(2, 1)", x.met(2, 1), 60);
        Due.is("met(2, 10) then", x.met(2, 10), 0);
        Due.is("met(0, 0)", x.met(0, 0), LongestMet.BAD);
        Due.is("met(0, 61)", x.met(0, 61), LongestMet.BAD);
        for (int who : WRONG_WHO) Due.is("met(" + who + ", 1)", x.met(who, 1), LongestMet.BAD);
    }

    private static void promise8Gaps() {
        LongestMet x = new LongestMet();
        for (int who = 0; who <= 2; who++) gapsAre(x, who, 2, Due.refused(LongestMet.NOT), Due.refused(LongestMet.NOT));
        Due.line(x, 0, "0,5,30");
        gapsAre(x, 0, 0, 20, 1);
        gapsAre(x, 0, 1, 155, 6);
        gapsAre(x, 0, 2, 149, 12);
        gapsAre(x, 1, 0, Due.refused(LongestMet.NOT), Due.refused(LongestMet.NOT));
        Due.line(x, 1, "0,6,12,18,24,30,36");
        gapsAre(x, 1, 0, 60, 7);
        Due.line(x, 1, "3");
        gapsAre(x, 1, 0, 60, 1);
        gapsAre(x, 1, 1, 60, 1);
        gapsAre(x, 1, 2, 59, 2);
        gapsAre(x, 2, 0, 15, 1);
        gapsAre(x, 2, 1, 769, 30);
        Due.line(x, 1, "0+1");
        gapsAre(x, 1, 2, 0, 1);
        for (int who : WRONG_WHO) gapsAre(x, who, 0, Due.refused(LongestMet.BAD), Due.refused(LongestMet.BAD));
        gapsAre(x, 0, -1, Due.refused(LongestMet.BAD), Due.refused(LongestMet.BAD));
        gapsAre(x, 0, 3, Due.refused(LongestMet.BAD), Due.refused(LongestMet.BAD));
        Due.is("gaps(0, 0, -1)", x.gaps(0, 0, -1), Due.refused(LongestMet.BAD));
        Due.is("gaps(0, 0, 2)", x.gaps(0, 0, 2), Due.refused(LongestMet.BAD));
        Due.is("BAD ahead of NOT", new LongestMet().gaps(0, 0, 2), Due.refused(LongestMet.BAD));
    }

    private static void gapsAre(LongestMet x, int who, int which, long above, long below) {
        Due.is("gaps(" + who + ", " + which + ", 0)", x.gaps(who, which, 0), above);
        Due.is("gaps(" + who + ", " + which + ", 1)", x.gaps(who, which, 1), below);
    }

    private static void promise9Held() {
        heldIs("0,5,30", 0, 745, 0, 0, 0);
        heldIs("0,5,30", 5, 645, 0, 5, 5);
        heldIs("59", 5, 1770, 0);
        heldIs("30", 5, 1770, 0);
        // none beyond 59
        heldIs("58,59", 5, 1711, 0, 0);
        heldIs("57,58", 5, 1654, 0, 1);
        heldIs("0,1", 1, 1654, 0, 1);
        heldIs("25,30", 5, 1270, 0, 5);
        // the first one goes later too, for the gap that it ends
        heldIs("10,30,59", 5, 586, 5, 5, 0);
        // of like ones the least row
        heldIs("0,20,40", 5, 570, 0, 0, 0);
        heldIs("0+5", 3, 120, 0, 0, 0, 0, 0, 0, 0, 0, 0, 0, 0, 0);
        heldIs("0,1,2,3,4,5,6,7,8,9,10,11", 5, 951, 0, 0, 0, 0, 0, 0, 0, 1, 2, 3, 4, 5);
    }

    private static void heldIs(String text, int h, int together, int... later) {
        LongestMet x = new LongestMet();
        for (int line = 0; line <= 1; line++) {
            Due.is("buses of " + text, Due.line(x, line, text), later.length);
            Due.is("held(" + line + ", " + h + ", NONE) of " + text, x.held(line, h, LongestMet.NONE), together);
            for (int i = 0; i < later.length; i++) {
                Due.is("held(" + line + ", " + h + ", " + i + ") of " + text, x.held(line, h, i), later[i]);
            }
            Due.is("held, no such bus of " + text, x.held(line, h, later.length), LongestMet.NOT);
            Due.is("held changes nothing of " + text, x.count(line), later.length);
        }
    }

    /** Against every row there is, the least one first. */
    private static void promise9HeldOfAllRows() {
        int[][] lines = {{0, 1, 2, 3, 4}, {55, 56, 57, 58, 59}, {0, 3, 31, 33, 59}, {7, 8, 20, 22, 50}, {0, 2, 57, 58}, {28, 30, 31}, {54, 58}};
        for (int[] goes : lines) {
            StringBuilder text = new StringBuilder();
            for (int m : goes) text.append(text.length() == 0 ? "" : ",").append(m);
            for (int h = 0; h <= 5; h++) {
                int[] best = bestRow(goes, h);
                heldIs(text.toString(), h, waitsOf(goes, best), best);
            }
        }
    }

    private static int[] bestRow(int[] goes, int h) {
        int rows = 1;
        for (int i = 0; i < goes.length; i++) rows *= h + 1;
        int[] best = null;
        for (int row = 0; row < rows; row++) {
            int[] later = new int[goes.length];
            int rest = row;
            for (int i = goes.length - 1; i >= 0; i--) {
                later[i] = rest % (h + 1);
                rest /= h + 1;
            }
            int waits = waitsOf(goes, later);
            if (waits >= 0 && (best == null || waits < waitsOf(goes, best))) best = later;
        }
        return best;
    }

    /** All waits from 60 minutes; -1: buses may not go so. */
    private static int waitsOf(int[] goes, int[] later) {
        int waits = 0;
        for (int i = 0; i < goes.length; i++) {
            boolean last = i == goes.length - 1;
            int now = goes[i] + later[i];
            int then = last ? 60 + goes[0] + later[0] : goes[i + 1] + later[i + 1];
            if (now > 59 || now >= then) return -1;
            for (int m = now + 1; m <= then; m++) waits += then - m;
        }
        return waits;
    }

    private static void promise9HeldRefuses() {
        LongestMet x = new LongestMet();
        Due.is("held, no bus", x.held(0, 0, LongestMet.NONE), LongestMet.NOT);
        Due.is("held(0, 0, 60), no bus", x.held(0, 0, 60), LongestMet.BAD);
        Due.is("held(0, 0, 59), no bus", x.held(0, 0, 59), LongestMet.NOT);
        Due.is("13 buses", Due.line(x, 0, "0+5,1"), 13);
        Due.is("held of 13", x.held(0, 1, LongestMet.NONE), LongestMet.FULL);
        Due.is("held(0, 1, 12) of 13", x.held(0, 1, 12), LongestMet.FULL);
        Due.is("held(0, 1, 13) of 13: FULL ahead of no i-th", x.held(0, 1, 13), LongestMet.FULL);
        Due.is("held(0, 6, 13) of 13: BAD ahead of FULL", x.held(0, 6, 13), LongestMet.BAD);
        Due.line(x, 0, "5");
        Due.is("held(0, 0, 59)", x.held(0, 0, 59), LongestMet.NOT);
        Due.is("held(0, 0, 60)", x.held(0, 0, 60), LongestMet.BAD);
        Due.is("held(0, 0, -2)", x.held(0, 0, -2), LongestMet.BAD);
        Due.is("held(0, -1, 0)", x.held(0, -1, 0), LongestMet.BAD);
        Due.is("held(0, 6, 0)", x.held(0, 6, 0), LongestMet.BAD);
        Due.is("held(-1, 0, 0)", x.held(-1, 0, 0), LongestMet.BAD);
        Due.is("held(2, 0, 0)", x.held(2, 0, 0), LongestMet.BAD);
    }
}
