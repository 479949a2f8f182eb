/** Promises 15 to 18: the one move for the most light, for the least dark, moves that are told, worths. */
public final class Part3MovesTest {
    private static final Due due = new Due("Part3MovesTest");

    public static void main(String[] args) {
        setFindsTheFirstOfTheBest();
        setIsBehindAllTold();
        setOfSpots();
        setOfNone();
        showFindsTheFirstOfTheBest();
        showOfNone();
        triedMoves();
        triedMovesOfEveryLane();
        triedMovesRefuseInOrder();
        worths();
        refusals();
        due.end();
    }

    private static void set(OldLamps x, int spot, int watch, int by, int light) {
        due.is("set(" + spot + ", " + watch + ", 0)", x.set(spot, watch, 0), by);
        due.is("set(" + spot + ", " + watch + ", 1)", x.set(spot, watch, 1), light);
    }

    private static void show(OldLamps x, int spot, int v, int by, int below) {
        due.is("show(" + spot + ", " + v + ", 0)", x.show(spot, v, 0), by);
        due.is("show(" + spot + ", " + v + ", 1)", x.show(spot, v, 1), below);
    }

    private static void setFindsTheFirstOfTheBest() {
        OldLamps x = Coasts.of("o900000;0;9,l0,l0");
        set(x, 1, 6, 11, 9);
        x = Coasts.of("o900000;0;9,l1,l0");
        set(x, 1, 6, 1011, 9);
        x = Coasts.of("o900000;0;9,l1,m0,l0");
        set(x, 1, 6, 1011, 10);
        x = Coasts.of("o123456;0;9,l0");
        set(x, 1, 23, 181, 6);
        x = Coasts.of("o900000;0;0;0;9,l0,l1,l2,f1");
        set(x, 3, 6, 3013, 20);
        set(x, 0, 6, 3000, 38);
    }

    private static void setIsBehindAllTold() {
        OldLamps x = Coasts.of("o900000;0;9,l0,l0");
        x.move(0, 3, 0);
        set(x, 1, 6, 31, 9);
        x.move(0, 6, 0);
        set(x, 1, 6, 61, 9);
        x.move(0, 7, 0);
        set(x, 1, 6, 61, 9);
        for (int i = 3; i < 8; i++) due.is("move", x.move(1, i, 0), i);
        set(x, 1, 6, 61, 9);
        due.is("no move has come of it", x.many(2), 8);
        due.is("nor is it lighter", x.light(1, 6), 0);
    }

    private static void setOfSpots() {
        OldLamps x = Coasts.of("o900000;9;0;0,l0");
        x.move(0, 6, 0);
        set(x, 0, 6, 1, 9);
        x = Coasts.of("o900000;9;1;0;0,l0");
        x.move(0, 6, 0);
        set(x, 0, 6, 2, 9);
    }

    private static void setOfNone() {
        OldLamps x = Coasts.of("o900000;0,l0");
        set(x, 0, 6, OldLamps.NONE, 18);
        set(x, 0, 0, OldLamps.NONE, 9);
        x = Coasts.of("o900000;0;9,l0");
        set(x, 1, 0, OldLamps.NONE, 0);
        set(x, 1, 5, OldLamps.NONE, 0);
        set(x, 0, 23, OldLamps.NONE, 0);
    }

    private static void showFindsTheFirstOfTheBest() {
        OldLamps x = Coasts.of("o999999;0;9,l0");
        show(x, 1, 1, 61, 18);
        show(x, 1, 9, 61, 18);
        show(x, 1, 10, OldLamps.NONE, 24);
        x = Coasts.of("o999999;0;9,l0,m0");
        show(x, 1, 10, 121, 18);
        x.age(1);
        x.move(0, 0, 1);
        // From watch 1 on the two light one another by turns.
        show(x, 1, 1, 1011, 1);
        for (int i = 1; i < 8; i++) x.move(0, 0, 1);
        show(x, 1, 1, 1011, 1);
        due.is("no move has come of it", x.many(2), 8);
        x = Coasts.of("o999999;0;0;0;9,l0");
        show(x, 3, 1, 63, 18);
        x = Coasts.of("o999999;9;0;0,l0");
        x.age(12);
        x.move(0, 12, 0);
        show(x, 0, 1, 1, 12);
    }

    private static void showOfNone() {
        OldLamps x = Coasts.of("o999999;0;9,l0");
        show(x, 1, 0, OldLamps.NONE, 0);
        show(x, 0, 9, OldLamps.NONE, 0);
        show(x, 0, 999, OldLamps.NONE, 24);
    }

    private static void triedMoves() {
        OldLamps x = Coasts.of("o900000;0;9,l0,m0");
        x.move(0, 6, 1);
        x.move(1, 6, 1);
        Coasts.fill(x, 0, 2, 0, 6, 1, 1, 6, 0, 0, 6, 0);
        due.is("none in place of all", x.moves(1, 6, 0, 2, 0, 0), 0);
        due.is("one in place of all", x.moves(1, 6, 0, 2, 0, 1), 9);
        due.is("two in place of all", x.moves(1, 6, 0, 2, 0, 2), 9);
        due.is("the latest told of one watch", x.moves(1, 6, 0, 2, 0, 3), 0);
        due.is("from 6 on", x.moves(0, 6, 0, 2, 6, 1), 28);
        due.is("the told ones stand", x.light(1, 6), 19);
        due.is("and are as many", x.many(2), 2);
        due.is("fault()", x.fault(), 0);
        int[] cells = new int[24];
        for (int i = 0; i < 8; i++) {
            cells[3 * i] = i % 2;
            cells[3 * i + 1] = 6;
            cells[3 * i + 2] = 1;
        }
        Coasts.fill(x, 1, 2, cells);
        due.is("eight of them", x.moves(1, 6, 1, 2, 0, 8), 19);
        x.put(1, 23, 0);
        due.is("the eighth of them", x.moves(1, 6, 1, 2, 0, 8), 9);
        due.is("then none", x.moves(1, 6, 1, 2, 0, 0), 0);
        due.is("nine are too many", x.moves(1, 6, 1, 2, 0, 9), OldLamps.OUTSIDE);
    }

    private static void triedMovesOfEveryLane() {
        for (int lane = 0; lane < 3; lane++) {
            OldLamps x = Coasts.of("o900000;0;9,l0");
            Coasts.fill(x, 2, lane, 5, 0, 6, 1);
            due.is("moves of lane " + lane, x.moves(1, 6, 2, lane, 1, 1), 9);
            due.is("of another lane", x.moves(1, 6, 2, (lane + 1) % 3, 1, 1), -12);
        }
    }

    private static void triedMovesRefuseInOrder() {
        OldLamps x = Coasts.of("o900000;0;9,l0");
        Coasts.fill(x, 0, 0, 0, 6, 1, 1, 24, 2, 0, 24, 2, 0, -1, 0, 0, 0, 2, 0, 0, -1, -1, 0, 0);
        due.is("no spot", x.moves(2, 24, 4, 3, 0, 9), OldLamps.UNKNOWN);
        due.is("a watch outside", x.moves(0, 24, 4, 3, 0, 9), OldLamps.OUTSIDE);
        due.is("a watch below 0", x.moves(0, -1, 4, 3, 0, 9), OldLamps.OUTSIDE);
        due.is("no sheet", x.moves(0, 0, 4, 3, 0, 9), OldLamps.UNKNOWN);
        due.is("no sheet -1", x.moves(0, 0, -1, 3, 0, 9), OldLamps.UNKNOWN);
        due.is("no lane", x.moves(0, 0, 1, 3, 0, 0), OldLamps.OUTSIDE);
        due.is("n 9", x.moves(0, 0, 1, 0, -1, 9), OldLamps.OUTSIDE);
        due.is("n -1", x.moves(0, 0, 1, 0, -1, -1), OldLamps.OUTSIDE);
        due.is("n least", x.moves(0, 0, 0, 1, 0, Integer.MIN_VALUE), OldLamps.OUTSIDE);
        due.is("fault() of a refusal", x.fault(), 0);
        due.is("another lane", x.moves(0, 0, 0, 1, -1, 8), -12);
        due.is("fault()", x.fault(), 2);
        due.is("nothing", x.moves(0, 0, 1, 1, -1, 8), -11);
        due.is("fault()", x.fault(), 1);
        due.is("beyond", x.moves(0, 0, 0, 0, 3, 7), -13);
        due.is("fault()", x.fault(), 3);
        due.is("one cell beyond", x.moves(0, 0, 0, 0, 19, 1), -13);
        due.is("i -1, none taken", x.moves(0, 0, 0, 0, -1, 0), -13);
        due.is("i 22, none taken", x.moves(0, 0, 0, 0, 22, 0), -13);
        due.is("i 21, none taken", x.moves(0, 0, 0, 0, 21, 0), 9);
        due.is("i most", x.moves(0, 0, 0, 0, Integer.MAX_VALUE, 8), -13);
        due.is("a lamp ahead of its watch", x.moves(0, 0, 0, 0, 0, 2), OldLamps.UNKNOWN);
        due.is("a watch ahead of its spot", x.moves(0, 0, 0, 0, 6, 1), OldLamps.OUTSIDE);
        due.is("a watch ahead of the next lamp", x.moves(0, 0, 0, 0, 9, 4), OldLamps.OUTSIDE);
        due.is("a spot ahead of the next", x.moves(0, 0, 0, 0, 12, 3), OldLamps.UNKNOWN);
        due.is("a spot below 0", x.moves(0, 0, 0, 0, 15, 1), OldLamps.UNKNOWN);
        due.is("a lamp below 0", x.moves(0, 0, 0, 0, 18, 1), OldLamps.UNKNOWN);
        due.is("fault() of a refusal", x.fault(), 0);
        due.is("no moves have come of it", x.many(2), 0);
        x = new OldLamps();
        due.is("without a coast", x.moves(0, 24, 4, 3, 0, 9), OldLamps.UNKNOWN);
    }

    private static void worths() {
        OldLamps x = Coasts.of("o900000;0,l0");
        due.is("worth of one", x.worth(0), 27);
        x = Coasts.of("o900000;0,l0,l0");
        due.is("worth of one of two", x.worth(1), 81);
        due.is("worth of the other", x.worth(0), 81);
        due.is("it stays", x.light(0, 18), 63);
        x = Coasts.of("o900000;0;9,l0");
        x.move(0, 6, 1);
        due.is("of all spots", x.worth(0), 9);
        x = Coasts.of("o900000;0;0;0;0,l0,l1,m2,f3");
        due.is("of four at four spots", x.worth(1), 27);
        due.is("of the feast one of them", x.worth(3), 60);
        x = Coasts.of("o900000;9,f0");
        due.is("of nothing", x.worth(0), 0);
        due.is("the kind stays", x.ofLamp(0, 0), 2);
    }

    private static void refusals() {
        OldLamps x = Coasts.of("o900000;0;9,l0");
        due.is("set of no spot", x.set(2, 24, 2), OldLamps.UNKNOWN);
        due.is("set of spot -1", x.set(-1, 0, 0), OldLamps.UNKNOWN);
        due.is("set in watch 24", x.set(0, 24, 0), OldLamps.OUTSIDE);
        due.is("set in watch -1", x.set(0, -1, 0), OldLamps.OUTSIDE);
        due.is("set what 2", x.set(0, 0, 2), OldLamps.OUTSIDE);
        due.is("set what -1", x.set(0, 0, -1), OldLamps.OUTSIDE);
        due.is("show of no spot", x.show(2, 1000, 2), OldLamps.UNKNOWN);
        due.is("show of spot -1", x.show(-1, 0, 0), OldLamps.UNKNOWN);
        due.is("show below 1000", x.show(0, 1000, 0), OldLamps.OUTSIDE);
        due.is("show below -1", x.show(0, -1, 0), OldLamps.OUTSIDE);
        due.is("show what 2", x.show(0, 0, 2), OldLamps.OUTSIDE);
        due.is("show what -1", x.show(0, 0, -1), OldLamps.OUTSIDE);
        due.is("worth of no lamp", x.worth(1), OldLamps.UNKNOWN);
        due.is("worth of lamp -1", x.worth(-1), OldLamps.UNKNOWN);
        x = new OldLamps();
        due.is("set without a coast", x.set(0, 24, 2), OldLamps.UNKNOWN);
        due.is("show without a coast", x.show(0, 1000, 2), OldLamps.UNKNOWN);
        due.is("worth without a coast", x.worth(0), OldLamps.UNKNOWN);
    }
}
