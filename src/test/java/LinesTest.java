import java.util.Arrays;

/** Each call's line: its numbers to their ends, its refusals and faults in their order, and that they change nothing. */
public final class LinesTest {
    private static final int NULL = 1, CAST = 2, INDEX = 3, SIZE = 4;
    private static final Due due = new Due("LinesTest");

    public static void main(String[] args) {
        for (State state : new State[] {State.nothing(), State.least(), State.most()}) {
            theCoast(state);
            watches(state);
            movesAndWorths(state);
            howLightSpotsWere(state);
            sheets(state);
            parts(state);
            copies(state);
        }
        copies(State.rows());
        due.end();
    }

    private static void theCoast(State s) {
        new Line("coast", (x, n) -> x.coast(n[0], n[1], n[2], n[3])).namesFaults()
            .number(0, 3, 1, 2).number(0, 2, 1).number(0, s.cells[0].length, 24).number(0, 60, 11, 12, 13, 24, 26, 27, 28)
            .unknown(0).outside(1)
            .faulted(CAST, n -> s.isCast(n[0], n[1])).faulted(NULL, n -> s.isNothing(n[0]))
            .faulted(SIZE, n -> n[3] < 0).faulted(INDEX, n -> !s.hasCells(n[0], n[2], n[3]))
            .against(n -> textFault(s.cells[n[0]], n[2], n[3])).holds(due, s);
        new Line("sky", (x, n) -> x.sky(n[0])).number(0, 5)
            .outside(0).refused(OldLamps.STATE, n -> !s.isThere()).holds(due, s);
        new Line("shade", (x, n) -> x.shade(n[0])).number(0, s.spots - 1).unknown(0).holds(due, s);
        new Line("ofLamp", (x, n) -> x.ofLamp(n[0], n[1])).number(0, s.lamps - 1).number(0, 1)
            .unknown(0).outside(1).holds(due, s);
        new Line("cloud", (x, n) -> x.cloud(n[0], n[1])).number(0, 3).number(0, 9)
            .refused(OldLamps.STATE, n -> !s.isThere()).outside(0, 1).holds(due, s);
        new Line("age", (x, n) -> x.age(n[0])).number(1, 12)
            .outside(0).refused(OldLamps.STATE, n -> !s.isThere()).holds(due, s);
        new Line("move", (x, n) -> x.move(n[0], n[1], n[2])).number(0, s.lamps - 1).number(0, 23).number(0, s.spots - 1)
            .unknown(0, 2).outside(1).holdsUnlessFull(due, s, s.moves == 8);
        new Line("undo", (x, n) -> x.undo(n[0])).number(0, s.moves).outside(0).holds(due, s);
        new Line("many", (x, n) -> x.many(n[0])).number(0, 4).outside(0).holds(due, s);
    }

    private static long textFault(int[] cells, int i, int n) {
        int fault = Shapes.firstFault(Arrays.copyOfRange(cells, i, i + n));
        return fault == Shapes.TAKEN ? Line.TAKEN : -100 - fault;
    }

    private static void watches(State s) {
        new Line("where", (x, n) -> x.where(n[0], n[1])).number(0, s.lamps - 1).number(0, 23)
            .unknown(0).outside(1).holds(due, s);
        new Line("gives", (x, n) -> x.gives(n[0], n[1])).number(0, s.lamps - 1).number(0, 23)
            .unknown(0).outside(1).holds(due, s);
        new Line("falls", (x, n) -> x.falls(n[0], n[1])).number(0, s.lamps - 1).number(0, 23)
            .unknown(0).outside(1).holds(due, s);
        new Line("light", (x, n) -> x.light(n[0], n[1])).number(0, s.spots - 1).number(0, 23)
            .unknown(0).outside(1).holds(due, s);
        new Line("dark", (x, n) -> x.dark(n[0], n[1], n[2])).number(0, s.spots - 1).number(0, 23).number(0, 999)
            .unknown(0).outside(1, 2).answers(LinesTest::isNoneOrMore).holds(due, s);
    }

    private static boolean isNoneOrMore(long answer) {
        return answer >= 0 || answer == OldLamps.NONE;
    }

    private static void movesAndWorths(State s) {
        new Line("set", (x, n) -> x.set(n[0], n[1], n[2])).number(0, s.spots - 1).number(0, 23).number(0, 1)
            .unknown(0).outside(1, 2).answers(LinesTest::isNoneOrMore).holds(due, s);
        new Line("show", (x, n) -> x.show(n[0], n[1], n[2])).number(0, s.spots - 1).number(0, 999).number(0, 1)
            .unknown(0).outside(1, 2).answers(LinesTest::isNoneOrMore).holds(due, s);
        new Line("moves", (x, n) -> x.moves(n[0], n[1], n[2], n[3], n[4], n[5])).namesFaults()
            .number(0, s.spots - 1).number(0, 23).number(0, 3, 1, 2).number(0, 2, 1)
            .number(0, s.cells[1].length, 1, 21, 22).number(0, 8, 1, 7)
            .unknown(0).outside(1).unknown(2).outside(3, 5)
            .faulted(CAST, n -> s.isCast(n[2], n[3])).faulted(NULL, n -> s.isNothing(n[2]))
            .faulted(INDEX, n -> !s.hasCells(n[2], n[4], 3L * n[5]))
            .against(n -> wrongMove(s, s.cells[n[2]], n[4], n[5])).holds(due, s);
        new Line("worth", (x, n) -> x.worth(n[0])).number(0, s.lamps - 1).unknown(0).holds(due, s);
    }

    private static long wrongMove(State s, int[] cells, int i, int n) {
        for (int at = i; at < i + 3 * n; at += 3) {
            if (cells[at] < 0 || cells[at] >= s.lamps) return OldLamps.UNKNOWN;
            if (cells[at + 1] < 0 || cells[at + 1] > 23) return OldLamps.OUTSIDE;
            if (cells[at + 2] < 0 || cells[at + 2] >= s.spots) return OldLamps.UNKNOWN;
        }
        return Line.TAKEN;
    }

    private static void howLightSpotsWere(State s) {
        new Line("reading", (x, n) -> x.reading(n[0], n[1], n[2])).number(0, s.spots - 1).number(0, 23).number(0, 999)
            .unknown(0).outside(1, 2).holdsUnlessFull(due, s, s.readings == 8);
        new Line("back", (x, n) -> x.back(n[0])).number(0, s.readings).outside(0).holds(due, s);
        new Line("stood", (x, n) -> x.stood(n[0])).number(0, s.lamps - 1).unknown(0).holds(due, s);
        new Line("kinds", (x, n) -> x.kinds(n[0])).number(0, s.lamps - 1).unknown(0).holds(due, s);
        new Line("ages", (x, n) -> x.ages()).refused(OldLamps.STATE, n -> !s.isThere()).holds(due, s);
        new Line("clouds", (x, n) -> x.clouds(n[0])).number(0, 3)
            .outside(0).refused(OldLamps.STATE, n -> !s.isThere()).holds(due, s);
        new Line("odds", (x, n) -> x.odds(n[0], n[1], n[2], n[3])).answersLong()
            .number(0, s.spots - 1).number(0, 23).number(0, 999).number(0, 1)
            .unknown(0).outside(1, 2, 3).holds(due, s);
    }

    private static void sheets(State s) {
        new Line("sheet", (x, n) -> x.sheet(n[0], n[1], n[2])).namesFaults().number(0, 3).number(0, 2).number(0, 60)
            .unknown(0).outside(1).refused(OldLamps.OUTSIDE, n -> n[2] > 60).faulted(SIZE, n -> n[2] < 0)
            .answers(answer -> answer == 1).holds(due, s);
        new Line("lose", (x, n) -> x.lose(n[0])).number(0, 3, 1, 2).unknown(0).holds(due, s);
        new Line("put", (x, n) -> x.put(n[0], n[1], n[2])).namesFaults()
            .number(0, 3, 1, 2).number(0, 59, 2, 3, 11, 12, 23, 24).number(0, 0)
            .unknown(0).faulted(NULL, n -> s.isNothing(n[0])).faulted(INDEX, n -> !s.hasCells(n[0], n[1], 1))
            .answers(answer -> answer == 1).holds(due, s);
        new Line("cell", (x, n) -> x.cell(n[0], n[1], n[2])).answersLong().namesFaults()
            .number(0, 3, 1, 2).number(0, 59, 2, 3, 11, 12, 23, 24).number(0, 2, 1)
            .unknown(0).outside(2)
            .faulted(CAST, n -> s.isCast(n[0], n[2])).faulted(NULL, n -> s.isNothing(n[0]))
            .faulted(INDEX, n -> !s.hasCells(n[0], n[1], 1)).holds(due, s);
    }

    private static void copies(State s) {
        new Line("copy", (x, n) -> x.copy(n[0], n[1], n[2], n[3], n[4])).namesFaults()
            .number(0, 3, 1, 2).number(0, s.cells[0].length, 3).number(0, 3, 1, 2).number(0, s.cells[1].length, 5)
            .number(0, 60, 1, 2, 3)
            .unknown(0, 2).faulted(NULL, n -> s.isNothing(n[0])).faulted(NULL, n -> s.isNothing(n[2]))
            .faulted(CAST, n -> s.lanes[n[0]] != s.lanes[n[2]])
            .faulted(INDEX, n -> !s.hasCells(n[0], n[1], n[4])).faulted(INDEX, n -> !s.hasCells(n[2], n[3], n[4]))
            .holds(due, s);
    }

    private static void parts(State s) {
        new Line("tell", (x, n) -> x.tell(n[0])).number(0, s.lamps - 1).unknown(0).holds(due, s);
        new Line("see", (x, n) -> x.see(n[0])).number(0, s.lamps - 1).unknown(0).holds(due, s);
        int[] kinds = {0, 1, 2, 0};
        new Line("as", (x, n) -> x.as(n[0], n[1])).namesFaults().number(0, s.lamps - 1, 1, 2).number(0, 2, 1)
            .unknown(0).outside(1).faulted(CAST, n -> n[1] > kinds[n[0]]).answers(answer -> answer == 1).holds(due, s);
        new Line("trace", (x, n) -> x.trace()).answers(answer -> true).holds(due, s);
        new Line("fault", (x, n) -> x.fault()).answers(answer -> answer == State.LEFT_FAULT).holds(due, s);
    }
}
