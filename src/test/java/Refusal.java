import java.util.Arrays;
import java.util.EnumMap;
import java.util.Map;
import java.util.Set;
import java.util.stream.Collectors;

/** Calls that are refused or that only ask: their answer, and that they change nothing; and what the others leave as it is. */
final class Refusal {
    static final int BAD = LongestMet.BAD, NOT = LongestMet.NOT, FULL = LongestMet.FULL;
    static final int NULL = -11, INDEX = -12, CAST = -13, STORE = -14, SIZE = -15;
    static final long LONG_BAD = Due.refused(BAD), LONG_NOT = Due.refused(NOT), LONG_FULL = Due.refused(FULL);

    interface Call {
        long on(LongestMet x);
    }

    interface CallWith {
        long on(LongestMet x, int number);
    }

    private static final Map<State, Seen[]> UNTOUCHED = new EnumMap<>(State.class);

    private Refusal() {
    }

    /** In this state the call has this answer; nothing is changed, but count(8) by a finding. */
    static void in(State state, String name, Call call, long answer) {
        boolean isFinding = answer <= NULL && answer >= SIZE;
        unchanged(state, name, call, answer, isFinding ? (int) (-10 - answer) : state.latestFinding);
    }

    /** get() tells a finding by count(8) alone. */
    static void ofGet(State state, String name, Call call, int finding) {
        unchanged(state, name, call, Integer.MIN_VALUE, finding == 0 ? state.latestFinding : finding);
    }

    static void inAll(String name, Call call, long answer) {
        for (State state : State.values()) in(state, name, call, answer);
    }

    /** In each state a number (# in the name) beyond the least and the most is refused. */
    static void outside(String name, int least, int most, CallWith call, long answer) {
        int[] numbers = {least - 1, most + 1, least - 1000, most + 1000, Integer.MIN_VALUE, Integer.MAX_VALUE};
        for (int number : numbers) inAll(name.replace("#", "" + number), x -> call.on(x, number), answer);
    }

    /** In no state the least and the most are refused so. */
    static void within(String name, int least, int most, CallWith call, long answer) {
        for (State state : State.values()) {
            for (int number : new int[] {least, most}) {
                boolean refused = call.on(state.make(), number) == answer;
                Due.isTrue(state + ": " + name.replace("#", "" + number) + " is not refused", !refused);
            }
        }
    }

    /** Both: what may be told goes from the least to the most. */
    static void bounds(String name, int least, int most, CallWith call, long answer) {
        within(name, least, most, call, answer);
        outside(name, least, most, call, answer);
    }

    /** A call that only asks has the same answer twice and changes nothing. */
    static void asksOnly(String name, Call call) {
        for (State state : State.values()) {
            LongestMet x = state.make();
            long answer = call.on(x);
            Due.is(state + ": " + name + " again", call.on(x), answer);
            unchanged(state, name, call, answer, state.latestFinding);
        }
    }

    /** In this state the call has this answer, and changes nothing but these parts of what is seen. */
    static void changesOnly(State state, String name, Call call, long answer, int... parts) {
        Seen[] due = UNTOUCHED.computeIfAbsent(state, Refusal::seen);
        Set<Integer> changed = Arrays.stream(parts).boxed().collect(Collectors.toSet());
        for (int part = 0; part < Seen.PARTS; part++) {
            LongestMet x = state.make();
            Due.is(state + ": " + name, call.on(x), answer);
            Due.is(state + ": count(8) behind " + name, x.count(8), state.latestFinding);
            if (!changed.contains(part)) compare(state + ": behind " + name + " ", new Seen(x, part), due[part]);
        }
    }

    private static void unchanged(State state, String name, Call call, long answer, int latestFinding) {
        Seen[] due = UNTOUCHED.computeIfAbsent(state, Refusal::seen);
        for (int part = 0; part < Seen.PARTS; part++) {
            LongestMet x = state.make();
            Due.is(state + ": " + name, call.on(x), answer);
            Due.is(state + ": count(8) behind " + name, x.count(8), latestFinding);
            compare(state + ": behind " + name + " ", new Seen(x, part), due[part]);
        }
    }

    private static Seen[] seen(State state) {
        Seen[] seen = new Seen[Seen.PARTS];
        for (int part = 0; part < Seen.PARTS; part++) seen[part] = new Seen(state.make(), part);
        return seen;
    }

    private static void compare(String name, Seen seen, Seen due) {
        Due.isTrue(name + "as much is told", seen.calls.equals(due.calls));
        int rows = Math.min(seen.answers.size(), due.answers.size());
        for (int i = 0; i < rows; i++) {
            if (!seen.answers.get(i).equals(due.answers.get(i))) Due.is(name + due.calls.get(i), seen.answers.get(i), due.answers.get(i));
        }
    }
}
