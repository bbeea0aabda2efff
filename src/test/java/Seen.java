import java.util.ArrayList;
import java.util.List;

/** All that an object tells of one part of its state. It is changed by the asking: then it is used no more. */
final class Seen {
    static final int BUSES = 0, ANSWERS = 1, TOWNS = 2, DAYS = 3, STAYS = 4, FRIENDS = 5, STICK = 6, SHEETS = 7, DIGEST = 8, PARTS = 9;
    private static final int[] TIMES = {0, 1, 2, 3, 14, 15, 19, 20, 21, 500, 974, 975, 998, 999};

    private final LongestMet x;
    final List<String> calls = new ArrayList<>();
    final List<Long> answers = new ArrayList<>();

    Seen(LongestMet x, int part) {
        this.x = x;
        switch (part) {
            case BUSES: buses(); break;
            case ANSWERS: answersTold(); break;
            case TOWNS: towns(); break;
            case DAYS: days(); break;
            case STAYS: stays(); break;
            case FRIENDS: friends(); break;
            case STICK: stick(); break;
            case SHEETS: sheets(); break;
            default: told("digest()", x.digest()); break;
        }
    }

    private long told(String call, long answer) {
        calls.add(call);
        answers.add(answer);
        return answer;
    }

    private void counts(int from, int to) {
        for (int what = from; what <= to; what++) told("count(" + what + ")", x.count(what));
    }

    private void waits(int line) {
        for (int m = 0; m <= 59; m++) told("waits(" + line + ", " + m + ")", x.waits(line, m));
    }

    private void buses() {
        counts(0, 2);
        told("fault()", x.fault());
        waits(0);
        waits(1);
        // what the text tells, as it is or with a figure behind it
        told("type(49)", x.type('1'));
        told("fault() then", x.fault());
        told("line(0) then", x.line(0));
        waits(0);
    }

    private void answersTold() {
        counts(3, 4);
        for (int time : TIMES) {
            told("asOf(" + time + ")", x.asOf(time));
            told("count(4)", x.count(4));
            for (int n = 1; n <= 8; n++) told("said(" + n + ")", x.said(n));
        }
        for (int time : TIMES) told("asked(1, " + time + ")", x.asked(1, time));
        for (int a = 0; a <= 40; a++) told("takeBack(" + a + ", 999)", x.takeBack(a, 999));
    }

    private void towns() {
        for (int town = 0; town <= 3; town++) {
            for (int what = 0; what <= 1; what++) told("chance(" + town + ", " + what + ")", x.chance(town, what));
        }
        told("likeliest()", x.likeliest());
        for (int town = 0; town <= 3; town++) {
            for (int n = 1; n <= 8; n++) told("families(" + town + ", " + n + ", 0)", x.families(town, n, 0));
        }
    }

    private void days() {
        counts(5, 5);
        for (int what = 0; what <= 2; what++) told("fullest(" + what + ")", x.fullest(what));
        for (int day = 0; day <= 99; day++) {
            told("ward(" + day + ", " + day + ", 0)", x.ward(day, day, 0));
            told("ward(" + day + ", " + day + ", 2)", x.ward(day, day, 2));
        }
    }

    private void stays() {
        for (int stay = 0; stay <= 24; stay++) {
            // one of these is not ahead of its first day and not more than 19 behind
            for (int day = 0; day <= 99; day += 19) told("leaves(" + stay + ", " + day + ")", x.leaves(stay, day));
            told("leaves(" + stay + ", 99)", x.leaves(stay, 99));
        }
    }

    private void friends() {
        counts(6, 6);
        told("fewer()", x.fewer());
        for (int k = 1; k <= 8; k++) told("best(" + k + ", 0)", x.best(k, 0));
        for (int a = 0; a <= 7; a++) {
            for (int b = a + 1; b <= 7; b++) told("friends(" + a + ", " + b + ", 0)", x.friends(a, b, 0));
        }
    }

    private void stick() {
        counts(7, 7);
        for (int piece = 0; piece <= 8; piece++) {
            for (int what = 0; what <= 1; what++) told("hit(" + piece + ", 1, " + what + ")", x.hit(piece, 1, what));
        }
        told("piece(1)", x.piece(1));
        told("snap()", x.snap());
    }

    private void sheets() {
        for (int s = 0; s <= 3; s++) {
            for (int form = 0; form <= 2; form++) {
                // a finding that no asking has, so that it can be seen whether get() has one
                x.sheet(0, 0, -1);
                told("get(" + s + ", " + form + ", 0)", x.get(s, form, 0));
                if (told("count(8)", x.count(8)) == 5) items(s, form);
            }
            told("lose(" + s + ")", x.lose(s));
        }
    }

    private void items(int s, int form) {
        for (int i = 1; i <= 60; i++) told("get(" + s + ", " + form + ", " + i + ")", x.get(s, form, i));
    }
}
