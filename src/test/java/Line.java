import java.util.ArrayList;
import java.util.Arrays;
import java.util.List;

/**
 * A call's line of the document: its numbers, each from a least to a most one, and its refusals and faults in the order
 * in which the line tells them. Each number is tried at both ends, next to them and at the ends of int, each with each;
 * of what stands against a call the first is due, and it changes nothing but the fault, where the line names faults.
 */
final class Line {
    private static final int BATCH = 60;

    interface Call {
        long of(OldLamps x, int[] numbers);
    }

    interface When {
        boolean is(int[] numbers);
    }

    /** What stands against a call: the answer, or TAKEN. */
    interface Against {
        long answer(int[] numbers);
    }

    interface Answer {
        boolean isDue(long answer);
    }

    private record Check(Against against, int fault) {
    }

    static final long TAKEN = 0;

    private final String name;
    private final Call call;
    private final List<int[]> ranges = new ArrayList<>();
    private final List<int[]> tried = new ArrayList<>();
    private final List<Check> checks = new ArrayList<>();
    private Answer answer = given -> given >= 0;
    private boolean namesFaults = false;
    private boolean isLong = false;

    Line(String name, Call call) {
        this.name = name;
        this.call = call;
    }

    /** The next number, from least to most; others are tried, too. */
    Line number(int least, int most, int... others) {
        ranges.add(new int[] {least, most});
        int[] ends = {Integer.MIN_VALUE, least - 1, least, most, most + 1, Integer.MAX_VALUE};
        int[] all = Arrays.copyOf(ends, ends.length + others.length);
        System.arraycopy(others, 0, all, ends.length, others.length);
        tried.add(Arrays.stream(all).sorted().distinct().toArray());
        return this;
    }

    /** A long is answered: LOST for every refusal and fault. */
    Line answersLong() {
        isLong = true;
        answer = given -> given != OldLamps.LOST;
        return this;
    }

    Line namesFaults() {
        namesFaults = true;
        return this;
    }

    /** What a call that is taken may answer; 0 or more, where nothing else is told. */
    Line answers(Answer other) {
        answer = other;
        return this;
    }

    Line unknown(int... numbers) {
        for (int number : numbers) refused(OldLamps.UNKNOWN, n -> isBeyond(n, number));
        return this;
    }

    Line outside(int... numbers) {
        for (int number : numbers) refused(OldLamps.OUTSIDE, n -> isBeyond(n, number));
        return this;
    }

    Line refused(long answer, When when) {
        long due = isLong ? OldLamps.LOST : answer;
        return against(n -> when.is(n) ? due : TAKEN);
    }

    Line faulted(int fault, When when) {
        long due = isLong ? OldLamps.LOST : -10 - fault;
        checks.add(new Check(n -> when.is(n) ? due : TAKEN, fault));
        return this;
    }

    Line against(Against against) {
        checks.add(new Check(against, 0));
        return this;
    }

    private boolean isBeyond(int[] numbers, int which) {
        int[] range = ranges.get(which);
        return numbers[which] < range[0] || numbers[which] > range[1];
    }

    /** Behind all other refusals: what can be told is full. */
    void holdsUnlessFull(Due due, State state, boolean isFull) {
        refused(OldLamps.FULL, n -> isFull).holds(due, state);
    }

    void holds(Due due, State state) {
        long[] seen = State.seen(state.made());
        int[] places = new int[tried.size()];
        OldLamps x = state.made();
        int fault = State.LEFT_FAULT;
        int refusals = 0;
        int taken = 0;
        String latest = "";
        do {
            int[] numbers = numbers(places);
            latest = state.name + ": " + name + Arrays.toString(numbers);
            Check check = first(numbers);
            if (check == null) {
                taken++;
                isTaken(due, latest, state.made(), numbers);
                continue;
            }
            due.is(latest, call.of(x, numbers), check.against.answer(numbers));
            if (namesFaults) fault = check.fault;
            due.is("fault() behind " + latest, x.fault(), fault);
            if (++refusals == BATCH) {
                due.holds("nothing is otherwise behind " + latest, Arrays.equals(State.seen(x), seen));
                x = state.made();
                fault = State.LEFT_FAULT;
                refusals = 0;
            }
        } while (next(places));
        due.holds("nothing is otherwise behind " + latest, Arrays.equals(State.seen(x), seen));
        due.holds(state.name + ": " + name + " takes some", taken > 0 || !state.isThere() || state.moves == 8);
    }

    private void isTaken(Due due, String told, OldLamps x, int[] numbers) {
        long given = call.of(x, numbers);
        due.holds(told + " is taken, answers " + given, answer.isDue(given));
        due.is("fault() behind " + told, x.fault(), namesFaults ? 0 : State.LEFT_FAULT);
    }

    private Check first(int[] numbers) {
        for (Check check : checks) {
            if (check.against.answer(numbers) != TAKEN) return check;
        }
        return null;
    }

    private int[] numbers(int[] places) {
        int[] numbers = new int[places.length];
        for (int i = 0; i < places.length; i++) numbers[i] = tried.get(i)[places[i]];
        return numbers;
    }

    private boolean next(int[] places) {
        for (int i = 0; i < places.length; i++) {
            if (++places[i] < tried.get(i).length) return true;
            places[i] = 0;
        }
        return false;
    }
}
