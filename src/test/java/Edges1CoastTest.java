import java.util.Arrays;

/** Promises 1 to 9 and 36, a test for each sentence that names an end: the coast, and what is told of it. */
public final class Edges1CoastTest {
    private static final int NULL = 1;
    private static final Due due = new Due("Edges1CoastTest");

    public static void main(String[] args) {
        aNewObjectHasNoSpotsAndLamps();
        aNewObjectHasNoSheets();
        aNewObjectHasNothingTold();
        objectsAreEachTheirOwn();
        aTakenTextMakesAllAnew();
        aTakenTextLeavesSheetsAndTrace();
        aTextThatIsNotTakenChangesNothing();
        skyOfEachWatchOfADay();
        skyIsOutsideAheadOfState();
        shadeOfEachSpot();
        ofEachLamp();
        cloudsFrom0To9();
        cloudIsStateAheadOfOutside();
        agesFrom1To12();
        ageIsOutsideAheadOfState();
        eightMoves();
        aMoveIsNumberedByHowManyAreAhead();
        noneToEightAreTakenBack();
        theLastAreTakenBack();
        howManyAtTheLeastAndTheMost();
        due.end();
    }

    /** "No COAST (no SPOTS, LAMPS)". */
    private static void aNewObjectHasNoSpotsAndLamps() {
        OldLamps x = new OldLamps();
        int unknown = OldLamps.UNKNOWN;
        due.is("shade", x.shade(0), unknown);
        due.is("ofLamp", x.ofLamp(0, 0), unknown);
        due.is("move", x.move(0, 0, 0), unknown);
        due.is("where", x.where(0, 0), unknown);
        due.is("gives", x.gives(0, 0), unknown);
        due.is("falls", x.falls(0, 0), unknown);
        due.is("light", x.light(0, 0), unknown);
        due.is("dark", x.dark(0, 0, 0), unknown);
        due.is("set", x.set(0, 0, 0), unknown);
        due.is("show", x.show(0, 0, 0), unknown);
        due.is("moves", x.moves(0, 0, 0, 0, 0, 0), unknown);
        due.is("worth", x.worth(0), unknown);
        due.is("reading", x.reading(0, 0, 0), unknown);
        due.is("stood", x.stood(0), unknown);
        due.is("kinds", x.kinds(0), unknown);
        due.is("tell", x.tell(0), unknown);
        due.is("see", x.see(0), unknown);
        due.is("as", x.as(0, 0), unknown);
        due.is("odds", x.odds(0, 0, 0, 0), OldLamps.LOST);
        for (int watch = 0; watch < 6; watch++) due.is("sky", x.sky(watch), OldLamps.STATE);
        for (int day = 0; day < 4; day++) {
            due.is("cloud", x.cloud(day, 0), OldLamps.STATE);
            due.is("clouds", x.clouds(day), OldLamps.STATE);
        }
        for (int v = 1; v <= 12; v++) due.is("age", x.age(v), OldLamps.STATE);
        due.is("ages", x.ages(), OldLamps.STATE);
    }

    /** "SHEETS have nothing"; "nothing is no CAST". */
    private static void aNewObjectHasNoSheets() {
        OldLamps x = new OldLamps();
        for (int k = 0; k < 4; k++) {
            for (int lane = 0; lane < 3; lane++) {
                x.sheet(9, 0, 0);
                due.is("cell", x.cell(k, 0, lane), OldLamps.LOST);
                due.is("fault()", x.fault(), NULL);
                due.is("coast", x.coast(k, lane, 0, 0), -11);
            }
            due.is("put", x.put(k, 0, 0), -11);
            for (int other = 0; other < 4; other++) due.is("copy", x.copy(k, 0, other, 0, 0), -11);
            due.is("lose", x.lose(k), 0);
        }
    }

    /** "0 all without a COAST", TRACE "0 at first", "0 ahead of any", none to be taken back but none. */
    private static void aNewObjectHasNothingTold() {
        OldLamps x = new OldLamps();
        for (int what = 0; what < 5; what++) due.is("many(" + what + ")", x.many(what), 0);
        due.is("trace()", x.trace(), 0);
        due.is("fault()", x.fault(), 0);
        due.is("undo(0)", x.undo(0), 0);
        due.is("undo(1)", x.undo(1), OldLamps.OUTSIDE);
        due.is("undo(-1)", x.undo(-1), OldLamps.OUTSIDE);
        due.is("back(0)", x.back(0), 0);
        due.is("back(1)", x.back(1), OldLamps.OUTSIDE);
        due.is("back(-1)", x.back(-1), OldLamps.OUTSIDE);
    }

    private static void objectsAreEachTheirOwn() {
        OldLamps x = State.most().made();
        OldLamps y = new OldLamps();
        for (int what = 0; what < 5; what++) due.is("many", y.many(what), 0);
        due.is("trace()", y.trace(), 0);
        due.is("fault()", y.fault(), 0);
        due.is("lose", y.lose(0), 0);
        due.is("another coast", Coasts.read(y, "o000000;0,l0"), 1);
        due.is("the first one's lamps", x.many(0), 4);
        due.is("the first one's moves", x.many(2), 8);
        due.is("the first one's sky", x.sky(0), 9);
    }

    /** "makes all anew ..: no CLOUDS, no MOVES, no READINGS; light is given back 6 WATCHES later (AGE)". */
    private static void aTakenTextMakesAllAnew() {
        String text = "o987654;0;1;2;3,l0,m1,f2,l3";
        OldLamps x = State.most().made();
        x.age(12);
        x.cloud(0, 9);
        // What was asked ahead of it leaves nothing behind, either.
        x.clouds(0);
        x.odds(0, 0, 0, 0);
        due.is("the same text", x.coast(0, 0, 0, text.length()), 4);
        OldLamps y = Coasts.of(text);
        due.is("moves", x.many(2), 0);
        due.is("the first move", x.undo(0), 0);
        due.is("readings", x.many(3), 0);
        due.is("age", x.many(4), 6);
        for (int k = 0; k < 4; k++) {
            for (int watch = 0; watch < 24; watch++) {
                due.is("where", x.where(k, watch), k);
                due.is("light", x.light(k, watch), y.light(k, watch));
            }
            due.is("stood", x.stood(k), 15);
        }
        for (int day = 0; day < 4; day++) due.is("cloud", x.cloud(day, 0), 0);
        due.is("a move's number", x.move(0, 0, 0), 0);
        due.is("a reading's number", x.reading(0, 0, 0), 0);
        due.is("a smaller one", Coasts.read(x, "o000000;0,f0"), 1);
        due.is("its only spot", x.shade(1), OldLamps.UNKNOWN);
        due.is("its only lamp", x.where(1, 0), OldLamps.UNKNOWN);
        due.is("its light", x.light(0, 23), 0);
    }

    /** "but for SHEETS and TRACE". */
    private static void aTakenTextLeavesSheetsAndTrace() {
        OldLamps x = State.most().made();
        int trace = x.trace();
        x.coast(0, 0, 0, 27);
        due.is("trace()", x.trace(), trace);
        due.holds("it is not 0", trace != 0);
        int[] lanes = {0, 1, 2};
        int[][] cells = State.most().cells;
        for (int k = 0; k < 2; k++) {
            for (int i = 0; i < cells[k].length; i++) due.is("cell", x.cell(k, i, lanes[k]), cells[k][i]);
        }
        due.is("sheet 2 has nothing", x.lose(2), 0);
        due.is("sheet 3 has a row of no cell", x.lose(3), 1);
    }

    /** "They change nothing": so does -100 less the FIRST FAULT, of which fault() is none. */
    private static void aTextThatIsNotTakenChangesNothing() {
        State most = State.most();
        long[] seen = State.seen(most.made());
        String[] texts = {"", "o", "o1", "o111111", "o111111;5", "o111111;5;5,f", "o111111;5,m0,", "o111111;5,m1"};
        for (String text : texts) {
            OldLamps x = most.made();
            for (int i = 0; i < text.length(); i++) x.put(0, i, text.charAt(i));
            due.is(text, x.coast(0, 0, 0, text.length()), -100 - Shapes.firstFault(text));
            due.is("fault()", x.fault(), 0);
            for (int i = 0; i < text.length(); i++) x.put(0, i, most.cells[0][i]);
            due.holds("nothing is otherwise behind " + text, Arrays.equals(State.seen(x), seen));
        }
    }

    /** "SKY of a WATCH of a day (0 .. 5)". */
    private static void skyOfEachWatchOfADay() {
        OldLamps x = Coasts.of("o908172;0,l0");
        int[] sky = {9, 0, 8, 1, 7, 2};
        for (int watch = 0; watch < 6; watch++) due.is("sky(" + watch + ")", x.sky(watch), sky[watch]);
        due.is("sky(6)", x.sky(6), OldLamps.OUTSIDE);
        due.is("sky(-1)", x.sky(-1), OldLamps.OUTSIDE);
    }

    /** "OUTSIDE; STATE: there is no COAST". */
    private static void skyIsOutsideAheadOfState() {
        OldLamps x = new OldLamps();
        due.is("sky(6)", x.sky(6), OldLamps.OUTSIDE);
        due.is("sky(-1)", x.sky(-1), OldLamps.OUTSIDE);
        due.is("sky(5)", x.sky(5), OldLamps.STATE);
        due.is("sky(0)", x.sky(0), OldLamps.STATE);
    }

    private static void shadeOfEachSpot() {
        OldLamps x = Coasts.of("o000000;9;0;8;1,l0");
        int[] shades = {9, 0, 8, 1};
        for (int spot = 0; spot < 4; spot++) due.is("shade(" + spot + ")", x.shade(spot), shades[spot]);
        due.is("shade(4)", x.shade(4), OldLamps.UNKNOWN);
        due.is("shade(-1)", x.shade(-1), OldLamps.UNKNOWN);
    }

    private static void ofEachLamp() {
        OldLamps x = Coasts.of("o000000;0;0;0;0,f3,l0,m2,f1");
        int[] kinds = {2, 0, 1, 2};
        int[] spots = {3, 0, 2, 1};
        for (int k = 0; k < 4; k++) {
            due.is("kind of " + k, x.ofLamp(k, 0), kinds[k]);
            due.is("first spot of " + k, x.ofLamp(k, 1), spots[k]);
            due.is("ofLamp(" + k + ", 2)", x.ofLamp(k, 2), OldLamps.OUTSIDE);
            due.is("ofLamp(" + k + ", -1)", x.ofLamp(k, -1), OldLamps.OUTSIDE);
        }
        due.is("ofLamp(4, 2)", x.ofLamp(4, 2), OldLamps.UNKNOWN);
        due.is("ofLamp(-1, -1)", x.ofLamp(-1, -1), OldLamps.UNKNOWN);
    }

    /** "The CLOUD of a DAY becomes v (0 .. 9): what it was". */
    private static void cloudsFrom0To9() {
        OldLamps x = Coasts.of("o999999;0,l0");
        for (int day = 0; day < 4; day++) {
            int was = 0;
            for (int v = 9; v >= 0; v--) {
                due.is("cloud(" + day + ", " + v + ")", x.cloud(day, v), was);
                due.is("by day then", x.falls(0, 6 * day), 9 - v);
                was = v;
            }
            x.cloud(day, day + 1);
        }
        for (int day = 0; day < 4; day++) {
            due.is("cloud(" + day + ", 10)", x.cloud(day, 10), OldLamps.OUTSIDE);
            due.is("cloud(" + day + ", -1)", x.cloud(day, -1), OldLamps.OUTSIDE);
            due.is("each day has its own", x.cloud(day, 0), day + 1);
        }
        due.is("cloud(4, 0)", x.cloud(4, 0), OldLamps.OUTSIDE);
        due.is("cloud(-1, 0)", x.cloud(-1, 0), OldLamps.OUTSIDE);
    }

    /** "STATE: there is no COAST; OUTSIDE: day, v". */
    private static void cloudIsStateAheadOfOutside() {
        OldLamps x = new OldLamps();
        due.is("cloud(4, 0)", x.cloud(4, 0), OldLamps.STATE);
        due.is("cloud(-1, 0)", x.cloud(-1, 0), OldLamps.STATE);
        due.is("cloud(0, 10)", x.cloud(0, 10), OldLamps.STATE);
        due.is("cloud(0, -1)", x.cloud(0, -1), OldLamps.STATE);
    }

    /** "AGE becomes v (1 .. 12): what it was". */
    private static void agesFrom1To12() {
        OldLamps x = Coasts.of("o900000;0,l0");
        int was = 6;
        for (int v = 1; v <= 12; v++) {
            due.is("age(" + v + ")", x.age(v), was);
            due.is("many(4)", x.many(4), v);
            was = v;
        }
        due.is("age(13)", x.age(13), OldLamps.OUTSIDE);
        due.is("age(0)", x.age(0), OldLamps.OUTSIDE);
        due.is("many(4)", x.many(4), 12);
    }

    /** "OUTSIDE; STATE: there is no COAST". */
    private static void ageIsOutsideAheadOfState() {
        OldLamps x = new OldLamps();
        due.is("age(0)", x.age(0), OldLamps.OUTSIDE);
        due.is("age(13)", x.age(13), OldLamps.OUTSIDE);
        due.is("age(1)", x.age(1), OldLamps.STATE);
        due.is("age(12)", x.age(12), OldLamps.STATE);
    }

    /** "MOVES, 8 at most"; FULL is told behind UNKNOWN and OUTSIDE, and a ninth leaves the eight as they are. */
    private static void eightMoves() {
        OldLamps x = Coasts.of("o000000;0;0;0;0,l0");
        for (int i = 0; i < 8; i++) due.is("move", x.move(0, i, (i + 1) % 4), i);
        due.is("a ninth", x.move(0, 8, 3), OldLamps.FULL);
        due.is("a ninth of no lamp", x.move(1, 24, 4), OldLamps.UNKNOWN);
        due.is("a ninth to no spot", x.move(0, 24, 4), OldLamps.UNKNOWN);
        due.is("a ninth in watch 24", x.move(0, 24, 0), OldLamps.OUTSIDE);
        due.is("a ninth in watch -1", x.move(0, -1, 0), OldLamps.OUTSIDE);
        due.is("many(2)", x.many(2), 8);
        for (int watch = 0; watch < 24; watch++) {
            due.is("where", x.where(0, watch), watch < 8 ? (watch + 1) % 4 : 0);
        }
    }

    /** "each numbered by how many there are ahead of it (the first one 0)". */
    private static void aMoveIsNumberedByHowManyAreAhead() {
        OldLamps x = Coasts.of("o000000;0;0,l0");
        due.is("the first", x.move(0, 23, 1), 0);
        due.is("the second", x.move(0, 0, 1), 1);
        x.undo(1);
        due.is("the second again", x.move(0, 5, 1), 1);
        x.undo(2);
        due.is("the first again", x.move(0, 5, 1), 0);
        for (int i = 1; i < 8; i++) x.move(0, 5, 1);
        x.undo(1);
        due.is("the eighth again", x.move(0, 5, 1), 7);
        due.is("a ninth", x.move(0, 5, 1), OldLamps.FULL);
    }

    /** "The last k MOVES (0 .. as many as there are) are taken back: how many are left". */
    private static void noneToEightAreTakenBack() {
        for (int told = 0; told <= 8; told++) {
            for (int k = 0; k <= told; k++) {
                OldLamps x = movedTo(told);
                due.is("one more than there are", x.undo(told + 1), OldLamps.OUTSIDE);
                due.is("undo(-1)", x.undo(-1), OldLamps.OUTSIDE);
                due.is("many(2)", x.many(2), told);
                due.is("undo(" + k + ") of " + told, x.undo(k), told - k);
                due.is("many(2)", x.many(2), told - k);
            }
        }
    }

    private static OldLamps movedTo(int told) {
        OldLamps x = Coasts.of("o000000;0;0;0,l0");
        for (int i = 0; i < told; i++) x.move(0, 2 * i, 1 + i % 2);
        return x;
    }

    private static void theLastAreTakenBack() {
        for (int k = 0; k <= 8; k++) {
            OldLamps x = movedTo(8);
            x.undo(k);
            OldLamps y = movedTo(8 - k);
            for (int watch = 0; watch < 24; watch++) due.is("where", x.where(0, watch), y.where(0, watch));
        }
    }

    private static void howManyAtTheLeastAndTheMost() {
        OldLamps x = State.least().made();
        int[] least = {1, 1, 0, 0, 6};
        for (int what = 0; what < 5; what++) due.is("many(" + what + ")", x.many(what), least[what]);
        x = State.most().made();
        x.age(12);
        int[] most = {4, 4, 8, 8, 12};
        for (int what = 0; what < 5; what++) due.is("many(" + what + ")", x.many(what), most[what]);
        due.is("many(5)", x.many(5), OldLamps.OUTSIDE);
        due.is("many(-1)", x.many(-1), OldLamps.OUTSIDE);
    }
}
