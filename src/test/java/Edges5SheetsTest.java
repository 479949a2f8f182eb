/** Promises 26 to 35, a test for each sentence that names an end: sheets, telling and seeing, TRACE, FAULTS. */
public final class Edges5SheetsTest {
    private static final int NULL = 1, CAST = 2, INDEX = 3, SIZE = 4;
    private static final int MOST = Integer.MAX_VALUE, LEAST = Integer.MIN_VALUE;
    private static final int[][] LANES = {{-128, 127}, {-32768, 32767}, {LEAST, MOST}};
    private static final Due due = new Due("Edges5SheetsTest");

    public static void main(String[] args) {
        rowsOfNoCell();
        rowsOf60Cells();
        rowsOfOneMoreAndOfLessThanNone();
        aNewRowIs0AtFirst();
        aRefusedSheetIsAsItWas();
        nothingIsNoCast();
        losingARow();
        theEndsOfEachLane();
        theNumbersNextToTheEnds();
        theEndsOfIntInEachLane();
        putsBeyondTheRow();
        cellsBeyondTheRow();
        copiesOfNoCell();
        copiesOf60Cells();
        copiesAsTheyWere();
        copiesOfOneMoreThanThereAre();
        copiesOfUnlikeLanes();
        copiesOfNothing();
        copiesOfTheEndsOfALane();
        tellingFromTheLeastToTheMost();
        bodiesThatTell();
        seenFromTheLeastToTheMost();
        bodiesThatAreSeen();
        takenAsEachKind();
        tellingLeavesTheLampAlone();
        traceToTheEndsOfInt();
        traceWraps();
        refusedTellingLeavesNoTrace();
        faultAheadOfAny();
        eachFaultOfEachCall();
        faultBehindACallThatCameToNone();
        faultBehindARefusal();
        faultBehindACallThatNamesNone();
        due.end();
    }

    private static void lost(OldLamps x, int k, int i, int lane, int fault) {
        due.is("cell(" + k + ", " + i + ", " + lane + ")", x.cell(k, i, lane), OldLamps.LOST);
        due.is("fault()", x.fault(), fault);
    }

    /** "a row of 0 .. 60 numbers". */
    private static void rowsOfNoCell() {
        for (int lane = 0; lane < 3; lane++) {
            OldLamps x = new OldLamps();
            due.is("sheet of no cell", x.sheet(3, lane, 0), 1);
            due.is("put", x.put(3, 0, 1), -13);
            due.is("put", x.put(3, -1, 1), -13);
            lost(x, 3, 0, lane, INDEX);
            lost(x, 3, -1, lane, INDEX);
            lost(x, 3, 0, (lane + 1) % 3, CAST);
            due.is("a copy of none", x.copy(3, 0, 3, 0, 0), 0);
            due.is("a copy of one", x.copy(3, 0, 3, 0, 1), -13);
            due.is("a copy of none from 1 on", x.copy(3, 1, 3, 0, 0), -13);
            due.is("a copy of none to 1 on", x.copy(3, 0, 3, 1, 0), -13);
            due.is("a text of none", x.coast(3, lane, 0, 0), -100);
            due.is("a text of one", x.coast(3, lane, 0, 1), -13);
            due.is("it is a row", x.lose(3), 1);
            due.is("no more", x.lose(3), 0);
        }
    }

    private static void rowsOf60Cells() {
        for (int lane = 0; lane < 3; lane++) {
            OldLamps x = new OldLamps();
            due.is("sheet of 60 cells", x.sheet(0, lane, 60), 1);
            for (int i = 0; i < 60; i++) due.is("put", x.put(0, i, i + 1), 1);
            for (int i = 0; i < 60; i++) due.is("cell", x.cell(0, i, lane), i + 1);
            due.is("put to the place behind", x.put(0, 60, 1), -13);
            lost(x, 0, 60, lane, INDEX);
            lost(x, 0, -1, lane, INDEX);
            due.is("a text of all", x.coast(0, lane, 0, 60), -100);
            due.is("a text of one more", x.coast(0, lane, 0, 61), -13);
            due.is("a text of none at the end", x.coast(0, lane, 60, 0), -100);
            due.is("a text of none behind the end", x.coast(0, lane, 61, 0), -13);
        }
    }

    /** "OUTSIDE: lane, n above 60; SIZE". */
    private static void rowsOfOneMoreAndOfLessThanNone() {
        OldLamps x = new OldLamps();
        for (int k = 0; k < 4; k++) {
            due.is("61", x.sheet(k, 0, 61), OldLamps.OUTSIDE);
            due.is("the most", x.sheet(k, 2, MOST), OldLamps.OUTSIDE);
            due.is("-1", x.sheet(k, 1, -1), -14);
            due.is("the least", x.sheet(k, 2, LEAST), -14);
            due.is("lane 3 ahead of 61", x.sheet(k, 3, 61), OldLamps.OUTSIDE);
            due.is("lane 3 ahead of -1", x.sheet(k, 3, -1), OldLamps.OUTSIDE);
            due.is("lane -1 ahead of -1", x.sheet(k, -1, -1), OldLamps.OUTSIDE);
            due.is("nothing came of it", x.lose(k), 0);
        }
        due.is("sheet 4 ahead of all", x.sheet(4, 3, -1), OldLamps.UNKNOWN);
        due.is("sheet -1 ahead of all", x.sheet(-1, -1, 61), OldLamps.UNKNOWN);
    }

    /** "(0 at first)": also where there was a row, and where a shorter one was in between. */
    private static void aNewRowIs0AtFirst() {
        OldLamps x = new OldLamps();
        x.sheet(1, 2, 60);
        for (int i = 0; i < 60; i++) x.put(1, i, -1);
        x.sheet(1, 0, 1);
        due.is("the only cell", x.cell(1, 0, 0), 0);
        x.sheet(1, 2, 60);
        for (int i = 0; i < 60; i++) due.is("cell", x.cell(1, i, 2), 0);
        for (int i = 0; i < 60; i++) x.put(1, i, -1);
        x.lose(1);
        x.sheet(1, 2, 60);
        for (int i = 0; i < 60; i++) due.is("cell behind nothing", x.cell(1, i, 2), 0);
    }

    private static void aRefusedSheetIsAsItWas() {
        OldLamps x = new OldLamps();
        Coasts.fill(x, 0, 1, 5, 6, 7);
        x.sheet(0, 2, 61);
        x.sheet(0, 2, -1);
        x.sheet(0, 3, 2);
        for (int i = 0; i < 3; i++) due.is("cell", x.cell(0, i, 1), 5 + i);
        lost(x, 0, 3, 1, INDEX);
    }

    private static void nothingIsNoCast() {
        OldLamps x = new OldLamps();
        for (int lane = 0; lane < 3; lane++) {
            lost(x, 0, 0, lane, NULL);
            lost(x, 0, -1, lane, NULL);
            due.is("coast", x.coast(0, lane, -1, -1), -11);
            x.sheet(0, lane, 1);
            x.lose(0);
        }
        x = Coasts.of("o000000;0,l0");
        for (int lane = 0; lane < 3; lane++) due.is("moves", x.moves(0, 0, 0, lane, -1, 8), -11);
    }

    /** "A SHEET has nothing: 1; 0: it had nothing". */
    private static void losingARow() {
        OldLamps x = new OldLamps();
        for (int k = 0; k < 4; k++) {
            x.sheet(k, k % 3, k == 0 ? 0 : 60);
            due.is("a row", x.lose(k), 1);
            due.is("nothing", x.lose(k), 0);
            lost(x, k, 0, k % 3, NULL);
            due.is("put", x.put(k, 0, 0), -11);
        }
        due.is("lose(4)", x.lose(4), OldLamps.UNKNOWN);
        due.is("lose(-1)", x.lose(-1), OldLamps.UNKNOWN);
    }

    private static void put(int lane, int v, int want) {
        OldLamps x = new OldLamps();
        x.sheet(2, lane, 1);
        due.is("put of " + v + " to lane " + lane, x.put(2, 0, v), 1);
        due.is("the cell of lane " + lane, x.cell(2, 0, lane), want);
    }

    private static void theEndsOfEachLane() {
        for (int lane = 0; lane < 3; lane++) {
            put(lane, LANES[lane][0], LANES[lane][0]);
            put(lane, LANES[lane][1], LANES[lane][1]);
            put(lane, 0, 0);
            put(lane, -1, -1);
        }
    }

    /** "cut to its LANE (with its sign)". */
    private static void theNumbersNextToTheEnds() {
        put(0, 128, -128);
        put(0, -129, 127);
        put(0, 255, -1);
        put(0, 256, 0);
        put(0, -256, 0);
        put(0, 384, -128);
        put(0, 32767, -1);
        put(1, 32768, -32768);
        put(1, -32769, 32767);
        put(1, 65535, -1);
        put(1, 65536, 0);
        put(1, 128, 128);
        put(1, -129, -129);
        put(2, 32768, 32768);
        put(2, -32769, -32769);
    }

    private static void theEndsOfIntInEachLane() {
        int[][] ends = {{LEAST, 0}, {LEAST + 1, 1}, {MOST, -1}, {MOST - 1, -2}};
        for (int[] end : ends) {
            put(0, end[0], end[1]);
            put(1, end[0], end[1]);
            put(2, end[0], end[0]);
        }
    }

    private static void putsBeyondTheRow() {
        OldLamps x = new OldLamps();
        Coasts.fill(x, 0, 2, 1, 2, 3);
        for (int i : new int[] {LEAST, -1, 3, 4, 59, 60, MOST}) {
            due.is("put to " + i, x.put(0, i, 9), -13);
            due.is("fault()", x.fault(), INDEX);
        }
        for (int i = 0; i < 3; i++) due.is("cell", x.cell(0, i, 2), i + 1);
        due.is("put to nothing, ahead of its place", x.put(1, -1, 9), -11);
        due.is("put to no sheet", x.put(4, -1, 9), OldLamps.UNKNOWN);
        due.is("put to the last", x.put(0, 2, 9), 1);
        due.is("the last", x.cell(0, 2, 2), 9);
    }

    /** "LOST: UNKNOWN, OUTSIDE: lane; FAULTS CAST .., NULL, INDEX". */
    private static void cellsBeyondTheRow() {
        OldLamps x = new OldLamps();
        Coasts.fill(x, 0, 1, 1, 2, 3);
        for (int i : new int[] {LEAST, -1, 3, 60, MOST}) {
            lost(x, 0, i, 1, INDEX);
            lost(x, 0, i, 0, CAST);
            lost(x, 0, i, 2, CAST);
            lost(x, 1, i, 1, NULL);
            lost(x, 0, i, 3, 0);
            lost(x, 0, i, -1, 0);
            lost(x, 4, i, 1, 0);
            lost(x, -1, i, 1, 0);
        }
        due.is("the last", x.cell(0, 2, 1), 3);
        due.is("fault()", x.fault(), 0);
    }

    private static void cells(OldLamps x, int k, int... want) {
        for (int i = 0; i < want.length; i++) due.is("cell(" + k + ", " + i + ", 2)", x.cell(k, i, 2), want[i]);
    }

    private static void copiesOfNoCell() {
        OldLamps x = new OldLamps();
        Coasts.fill(x, 0, 2, 1, 2, 3);
        Coasts.fill(x, 1, 2, 4, 5);
        for (int i = 0; i <= 3; i++) {
            for (int j = 0; j <= 2; j++) due.is("none", x.copy(0, i, 1, j, 0), 0);
            due.is("none to behind the end", x.copy(0, i, 1, 3, 0), -13);
            due.is("none to ahead of all", x.copy(0, i, 1, -1, 0), -13);
        }
        due.is("none from behind the end", x.copy(0, 4, 1, 0, 0), -13);
        due.is("none from ahead of all", x.copy(0, -1, 1, 0, 0), -13);
        cells(x, 0, 1, 2, 3);
        cells(x, 1, 4, 5);
    }

    private static void copiesOf60Cells() {
        OldLamps x = new OldLamps();
        x.sheet(0, 2, 60);
        x.sheet(1, 2, 60);
        for (int i = 0; i < 60; i++) x.put(0, i, i + 1);
        due.is("all", x.copy(0, 0, 1, 0, 60), 60);
        for (int i = 0; i < 60; i++) due.is("cell", x.cell(1, i, 2), i + 1);
        due.is("one more", x.copy(0, 0, 1, 0, 61), -13);
        due.is("all to themselves", x.copy(0, 0, 0, 0, 60), 60);
        due.is("the last to the first", x.copy(0, 59, 1, 0, 1), 1);
        due.is("the first to the last", x.copy(0, 0, 1, 59, 1), 1);
        due.is("the first", x.cell(1, 0, 2), 60);
        due.is("the last", x.cell(1, 59, 2), 1);
    }

    /** "perhaps the same", "as they were". */
    private static void copiesAsTheyWere() {
        for (int i = 0; i <= 6; i++) {
            for (int j = 0; j <= 6; j++) {
                for (int n = 0; n <= 6 - Math.max(i, j); n++) {
                    OldLamps x = new OldLamps();
                    int[] want = {10, 11, 12, 13, 14, 15};
                    Coasts.fill(x, 2, 2, want);
                    for (int c = 0; c < n; c++) want[j + c] = 10 + i + c;
                    due.is("copy(2, " + i + ", 2, " + j + ", " + n + ")", x.copy(2, i, 2, j, n), n);
                    cells(x, 2, want);
                }
            }
        }
    }

    /** "INDEX: i, j, n below 0 or beyond". */
    private static void copiesOfOneMoreThanThereAre() {
        OldLamps x = new OldLamps();
        Coasts.fill(x, 0, 2, 1, 2, 3, 4, 5);
        Coasts.fill(x, 1, 2, 6, 7, 8);
        int[][] beyond = {{0, 0, 6}, {0, 0, 4}, {1, 0, 5}, {3, 0, 3}, {0, 1, 3}, {0, 3, 1}, {5, 0, 1}, {6, 0, 0}, {0, 4, 0},
            {-1, 0, 1}, {0, -1, 1}, {0, 0, -1}, {MOST, 0, 1}, {0, MOST, 1}, {0, 0, MOST}, {LEAST, 0, 1}, {0, LEAST, 1},
            {0, 0, LEAST}, {MOST, MOST, MOST}, {1, 1, MOST}, {LEAST, LEAST, LEAST}, {-1, -1, 2}, {1, 1, -1}};
        for (int[] n : beyond) {
            due.is("from " + n[0] + " to " + n[1] + " of " + n[2], x.copy(0, n[0], 1, n[1], n[2]), -13);
            due.is("fault()", x.fault(), INDEX);
        }
        cells(x, 0, 1, 2, 3, 4, 5);
        cells(x, 1, 6, 7, 8);
        due.is("as many as there are", x.copy(0, 2, 1, 0, 3), 3);
        cells(x, 1, 3, 4, 5);
    }

    private static void copiesOfUnlikeLanes() {
        for (int lane = 0; lane < 3; lane++) {
            for (int other = 0; other < 3; other++) {
                OldLamps x = new OldLamps();
                x.sheet(0, lane, 2);
                x.sheet(1, other, 2);
                due.is("lanes " + lane + ", " + other, x.copy(0, 0, 1, 0, 2), lane == other ? 2 : -12);
                due.is("fault()", x.fault(), lane == other ? 0 : CAST);
                due.is("ahead of the place", x.copy(0, -1, 1, 3, -1), lane == other ? -13 : -12);
                due.is("none of lanes " + lane + ", " + other, x.copy(0, 0, 1, 0, 0), lane == other ? 0 : -12);
            }
        }
    }

    /** "FAULTS NULL (the first, the other)". */
    private static void copiesOfNothing() {
        OldLamps x = new OldLamps();
        Coasts.fill(x, 0, 2, 1);
        due.is("the first", x.copy(1, -1, 0, -1, -1), -11);
        due.is("the other", x.copy(0, -1, 1, -1, -1), -11);
        due.is("both", x.copy(1, 0, 2, 0, 0), -11);
        due.is("the same", x.copy(1, 0, 1, 0, 0), -11);
        due.is("fault()", x.fault(), NULL);
        due.is("no other sheet, ahead of nothing", x.copy(1, 0, 4, 0, 0), OldLamps.UNKNOWN);
        due.is("no sheet, ahead of nothing", x.copy(-1, 0, 1, 0, 0), OldLamps.UNKNOWN);
        due.is("fault()", x.fault(), 0);
    }

    private static void copiesOfTheEndsOfALane() {
        for (int lane = 0; lane < 3; lane++) {
            OldLamps x = new OldLamps();
            Coasts.fill(x, 0, lane, LANES[lane]);
            x.sheet(1, lane, 3);
            due.is("copy", x.copy(0, 0, 1, 1, 2), 2);
            due.is("the least", x.cell(1, 1, lane), LANES[lane][0]);
            due.is("the most", x.cell(1, 2, lane), LANES[lane][1]);
        }
    }

    private static void tellingFromTheLeastToTheMost() {
        for (int spot = 0; spot < 4; spot++) {
            OldLamps x = Coasts.of("o000000;0;0;0;0,l" + spot + ",m" + spot + ",f" + spot + ",l" + spot);
            int[] want = {spot, spot + 100, 2 * spot + 100, spot};
            for (int k = 0; k < 4; k++) due.is("tell(" + k + ")", x.tell(k), want[k]);
            due.is("tell(4)", x.tell(4), OldLamps.UNKNOWN);
            due.is("tell(-1)", x.tell(-1), OldLamps.UNKNOWN);
        }
    }

    private static void leaves(OldLamps x, int ahead, int... bodies) {
        int trace = ahead;
        for (int body : bodies) trace = 31 * trace + body;
        due.is("trace()", x.trace(), trace);
    }

    /** "bodies that leave their number in TRACE .. as they begin". */
    private static void bodiesThatTell() {
        int[][] bodies = {{1}, {2, 1}, {3, 2, 1, 1}};
        for (int k = 0; k < 3; k++) {
            OldLamps x = Coasts.of("o000000;0;0,l1,m1,f1");
            x.tell(k);
            leaves(x, 0, bodies[k]);
            int ahead = x.trace();
            x.tell(k);
            leaves(x, ahead, bodies[k]);
        }
    }

    /** "the LAMP's number; FEAST ones have their own (5): 60". */
    private static void seenFromTheLeastToTheMost() {
        OldLamps x = Coasts.of("o000000;0,l0,m0,l0,m0");
        for (int k = 0; k < 4; k++) due.is("see(" + k + ")", x.see(k), k);
        x = Coasts.of("o000000;0,f0,f0,f0,f0");
        for (int k = 0; k < 4; k++) due.is("see(" + k + ")", x.see(k), 60);
        due.is("see(4)", x.see(4), OldLamps.UNKNOWN);
        due.is("see(-1)", x.see(-1), OldLamps.UNKNOWN);
    }

    private static void bodiesThatAreSeen() {
        int[] bodies = {4, 4, 5};
        for (int k = 0; k < 3; k++) {
            OldLamps x = Coasts.of("o000000;0,l0,m0,f0");
            x.see(k);
            leaves(x, 0, bodies[k]);
            x.see(2);
            x.see(k);
            leaves(x, bodies[k], 5, bodies[k]);
        }
    }

    /** "1 MIRRORED (m), a LAMP; 2 FEAST (f), a MIRRORED"; "CAST: it is none". */
    private static void takenAsEachKind() {
        OldLamps x = Coasts.of("o000000;0,l0,m0,f0,l0");
        int[] kinds = {0, 1, 2, 0};
        for (int k = 0; k < 4; k++) {
            for (int kind = 0; kind < 3; kind++) {
                due.is("as(" + k + ", " + kind + ")", x.as(k, kind), kind <= kinds[k] ? 1 : -12);
                due.is("fault()", x.fault(), kind <= kinds[k] ? 0 : CAST);
            }
            due.is("as(" + k + ", 3)", x.as(k, 3), OldLamps.OUTSIDE);
            due.is("as(" + k + ", -1)", x.as(k, -1), OldLamps.OUTSIDE);
            due.is("fault()", x.fault(), 0);
        }
        due.is("as(4, 3)", x.as(4, 3), OldLamps.UNKNOWN);
        due.is("as(-1, -1)", x.as(-1, -1), OldLamps.UNKNOWN);
    }

    private static void tellingLeavesTheLampAlone() {
        OldLamps x = Coasts.of("o000000;0;0;0;0,l3,m2,f1");
        x.move(0, 0, 0);
        due.is("where it stands at first", x.tell(0), 3);
        due.is("taken as what it is", x.as(2, 0), 1);
        due.is("it tells as before", x.tell(2), 102);
        due.is("its kind", x.ofLamp(2, 0), 2);
    }

    /** Tells (1) and sees (4, 5) by digits, so that TRACE comes to be a number. */
    private static OldLamps traced(String digits, int want) {
        OldLamps x = Coasts.of("o000000;0;0,l1,f1");
        for (char digit : digits.toCharArray()) {
            if (digit == '1') x.tell(0);
            else x.see(digit - '4');
        }
        due.is("trace() by " + digits, x.trace(), want);
        return x;
    }

    private static OldLamps tracedToTheMost() {
        return traced("51451441444511154144", MOST);
    }

    private static OldLamps tracedToTheLeast() {
        return traced("51451441444511154145", LEAST);
    }

    private static void traceToTheEndsOfInt() {
        tracedToTheMost();
        tracedToTheLeast();
        traced("41414155151544145454", 0);
        traced("55451155155444555154", -1);
        traced("11515144151541114445", MOST - 1);
        traced("144415155111114444415", LEAST + 1);
    }

    /** "an int that wraps": from its ends, by each body. */
    private static void traceWraps() {
        OldLamps x = tracedToTheMost();
        x.tell(0);
        due.is("by 1", x.trace(), 2147483618);
        x = tracedToTheLeast();
        x.see(0);
        due.is("by 4", x.trace(), -2147483644);
        x = tracedToTheMost();
        x.see(1);
        due.is("by 5", x.trace(), 2147483622);
        x = tracedToTheMost();
        x.tell(1);
        due.is("by 3, 2, 1, 1", x.trace(), 2146651454);
    }

    private static void refusedTellingLeavesNoTrace() {
        OldLamps x = tracedToTheMost();
        for (int k : new int[] {LEAST, -1, 2, 3, 4, MOST}) {
            due.is("tell", x.tell(k), OldLamps.UNKNOWN);
            due.is("see", x.see(k), OldLamps.UNKNOWN);
            due.is("as", x.as(k, 0), OldLamps.UNKNOWN);
        }
        x.as(0, 2);
        x.as(1, 2);
        due.is("trace()", x.trace(), MOST);
    }

    private static void faultAheadOfAny() {
        OldLamps x = new OldLamps();
        due.is("of a new one", x.fault(), 0);
        x.many(9);
        x.lose(9);
        x.tell(9);
        due.is("ahead of a call that names one", x.fault(), 0);
    }

    private static void fault(OldLamps x, String call, long answer, int fault) {
        due.is(call, answer, -10 - fault);
        due.is("fault() of " + call, x.fault(), fault);
    }

    private static void eachFaultOfEachCall() {
        OldLamps x = Coasts.of("o000000;0,l0");
        x.sheet(0, 1, 3);
        fault(x, "coast: CAST", x.coast(0, 0, 9, -1), CAST);
        fault(x, "coast: NULL", x.coast(1, 0, 9, -1), NULL);
        fault(x, "coast: SIZE", x.coast(0, 1, 9, -1), SIZE);
        fault(x, "coast: INDEX", x.coast(0, 1, 9, 1), INDEX);
        fault(x, "moves: CAST", x.moves(0, 0, 0, 0, 9, 1), CAST);
        fault(x, "moves: NULL", x.moves(0, 0, 1, 0, 9, 1), NULL);
        fault(x, "moves: INDEX", x.moves(0, 0, 0, 1, 1, 1), INDEX);
        fault(x, "sheet: SIZE", x.sheet(0, 0, -1), SIZE);
        fault(x, "put: NULL", x.put(1, 9, 0), NULL);
        fault(x, "put: INDEX", x.put(0, 3, 0), INDEX);
        fault(x, "copy: NULL", x.copy(0, 9, 1, 9, 9), NULL);
        x.sheet(1, 0, 3);
        fault(x, "copy: CAST", x.copy(0, 9, 1, 9, 9), CAST);
        fault(x, "copy: INDEX", x.copy(0, 0, 0, 1, 3), INDEX);
        fault(x, "as: CAST", x.as(0, 1), CAST);
        lost(x, 0, 9, 0, CAST);
        lost(x, 2, 9, 0, NULL);
        lost(x, 0, 9, 1, INDEX);
    }

    /** A fault is left, then a call that names faults is made, that comes to none. */
    private static void faultBehindACallThatCameToNone() {
        OldLamps x = Coasts.of("o000000;0,l0");
        x.sheet(0, 0, 3);
        for (int call = 0; call < 8; call++) {
            fault(x, "put", x.put(0, 3, 0), INDEX);
            long answer = switch (call) {
                case 0 -> x.coast(3, 0, 0, 12);
                case 1 -> x.coast(0, 0, 0, 3) + 101;
                case 2 -> x.moves(0, 0, 0, 0, 0, 1) + 1;
                case 3 -> x.sheet(1, 0, 0);
                case 4 -> x.put(0, 0, 0);
                case 5 -> x.cell(0, 0, 0) + 1;
                case 6 -> x.copy(0, 0, 0, 2, 1);
                default -> x.as(0, 0);
            };
            due.is("call " + call, answer, 1);
            due.is("fault() behind call " + call, x.fault(), 0);
        }
    }

    /** "0: it came to none, or was refused". */
    private static void faultBehindARefusal() {
        OldLamps x = Coasts.of("o000000;0,l0");
        Coasts.fill(x, 0, 0, 0, 24, 0);
        for (int call = 0; call < 10; call++) {
            fault(x, "put", x.put(0, 3, 0), INDEX);
            long answer = switch (call) {
                case 0 -> x.coast(4, 0, 0, 0);
                case 1 -> x.coast(0, 3, 0, 0) + 1;
                case 2 -> x.moves(1, 0, 0, 0, 0, 0);
                case 3 -> x.moves(0, 0, 0, 0, 0, 1) + 1;
                case 4 -> x.sheet(4, 0, 0);
                case 5 -> x.sheet(0, 0, 61) + 1;
                case 6 -> x.put(4, 0, 0);
                case 7 -> x.cell(0, 0, 3) - OldLamps.LOST - 1;
                case 8 -> x.copy(0, 0, 4, 0, 0);
                default -> x.as(1, 0);
            };
            due.is("call " + call, answer, -1);
            due.is("fault() behind call " + call, x.fault(), 0);
        }
    }

    private static void faultBehindACallThatNamesNone() {
        OldLamps x = Coasts.of("o900000;0;0,l0");
        x.sheet(0, 0, -1);
        long[] answers = {x.sky(0), x.sky(6), x.shade(0), x.shade(9), x.ofLamp(0, 0), x.ofLamp(0, 9), x.cloud(0, 1),
            x.cloud(9, 1), x.age(5), x.age(13), x.move(0, 0, 0), x.move(0, 99, 0), x.undo(1), x.undo(9), x.where(0, 0),
            x.where(9, 0), x.gives(0, 0), x.gives(9, 0), x.falls(0, 0), x.falls(9, 0), x.light(0, 0), x.light(9, 0),
            x.dark(0, 0, 0), x.dark(0, 0, -1), x.set(0, 0, 0), x.set(9, 0, 0), x.show(0, 0, 0), x.show(9, 0, 0), x.worth(0),
            x.worth(9), x.reading(0, 0, 0), x.reading(9, 0, 0), x.back(1), x.back(9), x.stood(0), x.stood(9), x.kinds(0),
            x.kinds(9), x.ages(), x.clouds(0), x.clouds(9), x.odds(0, 0, 0, 0), x.odds(9, 0, 0, 0), x.lose(0), x.lose(9),
            x.tell(0), x.tell(9), x.see(0), x.see(9), x.trace(), x.fault(), x.many(0), x.many(9)};
        due.is("as many calls", answers.length, 53);
        due.is("leave the fault", x.fault(), SIZE);
    }
}
