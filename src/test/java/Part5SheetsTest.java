/** Promises 26 to 35: sheets, telling and seeing, kinds, trace and fault. */
public final class Part5SheetsTest {
    private static final Due due = new Due("Part5SheetsTest");

    public static void main(String[] args) {
        sheetsAreMade();
        sheetRefusesInOrder();
        sheetsAreLost();
        cellsBecome();
        cellsAreCutToTheirLane();
        cellRefusesInOrder();
        cellsAreCopied();
        copyRefusesInOrder();
        lampsTell();
        lampsAreSeen();
        lampsAreOfKinds();
        traceWraps();
        faultIsOfTheLatest();
        due.end();
    }

    private static void sheetsAreMade() {
        OldLamps x = new OldLamps();
        due.is("sheet(0, 0, 60)", x.sheet(0, 0, 60), 1);
        due.is("sheet(3, 2, 0)", x.sheet(3, 2, 0), 1);
        for (int i = 0; i < 60; i++) due.is("0 at first", x.cell(0, i, 0), 0);
        due.is("no more than 60", x.cell(0, 60, 0), OldLamps.LOST);
        due.is("none of none", x.cell(3, 0, 2), OldLamps.LOST);
        due.is("fault()", x.fault(), 3);
        for (int i = 0; i < 60; i++) x.put(0, i, 7);
        x.sheet(0, 2, 5);
        due.is("a new row", x.cell(0, 0, 2), 0);
        due.is("of another length", x.cell(0, 5, 2), OldLamps.LOST);
        x.sheet(0, 2, 60);
        for (int i = 0; i < 60; i++) due.is("0 at first again", x.cell(0, i, 2), 0);
    }

    private static void sheetRefusesInOrder() {
        OldLamps x = new OldLamps();
        x.sheet(0, 1, 2);
        x.put(0, 1, 5);
        due.is("sheet(4, 3, -1)", x.sheet(4, 3, -1), OldLamps.UNKNOWN);
        due.is("sheet(-1, 0, 1)", x.sheet(-1, 0, 1), OldLamps.UNKNOWN);
        due.is("sheet(0, 3, -1)", x.sheet(0, 3, -1), OldLamps.OUTSIDE);
        due.is("sheet(0, -1, -1)", x.sheet(0, -1, -1), OldLamps.OUTSIDE);
        due.is("sheet(0, 0, 61)", x.sheet(0, 0, 61), OldLamps.OUTSIDE);
        due.is("sheet(0, 0, most)", x.sheet(0, 0, Integer.MAX_VALUE), OldLamps.OUTSIDE);
        due.is("fault() of a refusal", x.fault(), 0);
        due.is("sheet(0, 0, -1)", x.sheet(0, 0, -1), -14);
        due.is("fault()", x.fault(), 4);
        due.is("sheet(0, 0, least)", x.sheet(0, 0, Integer.MIN_VALUE), -14);
        due.is("it is as it was", x.cell(0, 1, 1), 5);
    }

    private static void sheetsAreLost() {
        OldLamps x = new OldLamps();
        for (int k = 0; k < 4; k++) {
            due.is("nothing yet", x.lose(k), 0);
            x.sheet(k, 0, 0);
            due.is("had a row", x.lose(k), 1);
            due.is("has nothing", x.lose(k), 0);
        }
        due.is("lose(-1)", x.lose(-1), OldLamps.UNKNOWN);
        due.is("lose(4)", x.lose(4), OldLamps.UNKNOWN);
        x.sheet(0, 0, 9);
        x.lose(0);
        due.is("no cells", x.cell(0, 0, 0), OldLamps.LOST);
        due.is("fault()", x.fault(), 1);
        due.is("a new row of another lane", x.sheet(0, 2, 1), 1);
        due.is("its cell", x.cell(0, 0, 2), 0);
    }

    private static void cellsBecome() {
        OldLamps x = new OldLamps();
        x.sheet(1, 2, 3);
        due.is("put(1, 0, 5)", x.put(1, 0, 5), 1);
        due.is("put(1, 2, most)", x.put(1, 2, Integer.MAX_VALUE), 1);
        due.is("cell(1, 0, 2)", x.cell(1, 0, 2), 5);
        due.is("cell(1, 1, 2)", x.cell(1, 1, 2), 0);
        due.is("cell(1, 2, 2)", x.cell(1, 2, 2), Integer.MAX_VALUE);
        due.is("put(4, ..)", x.put(4, 0, 0), OldLamps.UNKNOWN);
        due.is("put(-1, ..)", x.put(-1, 0, 0), OldLamps.UNKNOWN);
        due.is("put to nothing", x.put(0, -1, 0), -11);
        due.is("fault()", x.fault(), 1);
        due.is("put(1, 3, 0)", x.put(1, 3, 0), -13);
        due.is("fault()", x.fault(), 3);
        due.is("put(1, -1, 0)", x.put(1, -1, 0), -13);
        due.is("put(1, least, 0)", x.put(1, Integer.MIN_VALUE, 0), -13);
        due.is("put(1, most, 0)", x.put(1, Integer.MAX_VALUE, 0), -13);
    }

    private static void cellsAreCutToTheirLane() {
        int[] numbers = {127, 128, 255, 256, -128, -129, 32767, 32768, 65535, 65536, -32769, 70001, Integer.MIN_VALUE};
        for (int v : numbers) {
            OldLamps x = new OldLamps();
            for (int lane = 0; lane < 3; lane++) {
                x.sheet(lane, lane, 1);
                x.put(lane, 0, v);
            }
            due.is(v + " to bytes", x.cell(0, 0, 0), (byte) v);
            due.is(v + " to shorts", x.cell(1, 0, 1), (short) v);
            due.is(v + " to ints", x.cell(2, 0, 2), v);
        }
    }

    private static void cellRefusesInOrder() {
        OldLamps x = new OldLamps();
        x.sheet(0, 1, 2);
        cellIsLost(x, 4, 9, 3, 0);
        cellIsLost(x, -1, 0, 0, 0);
        cellIsLost(x, 0, 9, 3, 0);
        cellIsLost(x, 0, 0, -1, 0);
        cellIsLost(x, 0, 9, 0, 2);
        cellIsLost(x, 0, 0, 2, 2);
        cellIsLost(x, 1, 9, 0, 1);
        cellIsLost(x, 1, -1, 2, 1);
        cellIsLost(x, 0, 2, 1, 3);
        cellIsLost(x, 0, -1, 1, 3);
        due.is("cell(0, 1, 1)", x.cell(0, 1, 1), 0);
        due.is("fault()", x.fault(), 0);
    }

    private static void cellIsLost(OldLamps x, int k, int i, int lane, int fault) {
        String call = "cell(" + k + ", " + i + ", " + lane + ")";
        due.is(call, x.cell(k, i, lane), OldLamps.LOST);
        due.is("fault() of " + call, x.fault(), fault);
    }

    private static void cellsAreCopied() {
        OldLamps x = new OldLamps();
        Coasts.fill(x, 0, 2, 1, 2, 3, 4, 5);
        Coasts.fill(x, 1, 2, 9, 9, 9);
        due.is("copy to another", x.copy(0, 1, 1, 1, 2), 2);
        cells(x, 1, 9, 2, 3);
        due.is("copy on", x.copy(0, 0, 0, 1, 4), 4);
        cells(x, 0, 1, 1, 2, 3, 4);
        due.is("copy back", x.copy(0, 2, 0, 0, 3), 3);
        cells(x, 0, 2, 3, 4, 3, 4);
        due.is("none at the ends", x.copy(0, 5, 1, 3, 0), 0);
        due.is("fault()", x.fault(), 0);
        cells(x, 1, 9, 2, 3);
        for (int lane = 0; lane < 2; lane++) {
            x.sheet(2, lane, 2);
            x.put(2, 0, 100);
            due.is("copy in lane " + lane, x.copy(2, 0, 2, 1, 1), 1);
            due.is("the cell", x.cell(2, 1, lane), 100);
        }
    }

    private static void cells(OldLamps x, int k, int... numbers) {
        for (int i = 0; i < numbers.length; i++) due.is("cell(" + k + ", " + i + ", 2)", x.cell(k, i, 2), numbers[i]);
    }

    private static void copyRefusesInOrder() {
        OldLamps x = new OldLamps();
        Coasts.fill(x, 0, 2, 1, 2, 3, 4, 5);
        Coasts.fill(x, 1, 0, 1, 2, 3);
        Coasts.fill(x, 3, 2, 1, 2, 3);
        copyIsRefused(x, 4, -1, 2, -1, -1, OldLamps.UNKNOWN, 0);
        copyIsRefused(x, 2, -1, 4, -1, -1, OldLamps.UNKNOWN, 0);
        copyIsRefused(x, -1, 0, 0, 0, 0, OldLamps.UNKNOWN, 0);
        copyIsRefused(x, 0, 0, -1, 0, 0, OldLamps.UNKNOWN, 0);
        copyIsRefused(x, 2, -1, 0, -1, -1, -11, 1);
        copyIsRefused(x, 0, -1, 2, -1, -1, -11, 1);
        copyIsRefused(x, 0, -1, 1, -1, -1, -12, 2);
        copyIsRefused(x, 1, 0, 0, 0, 1, -12, 2);
        copyIsRefused(x, 0, -1, 3, 0, 0, -13, 3);
        copyIsRefused(x, 0, 0, 3, -1, 0, -13, 3);
        copyIsRefused(x, 0, 0, 3, 0, -1, -13, 3);
        copyIsRefused(x, 0, 6, 3, 0, 0, -13, 3);
        copyIsRefused(x, 0, 0, 3, 4, 0, -13, 3);
        copyIsRefused(x, 0, 0, 3, 0, 4, -13, 3);
        copyIsRefused(x, 3, 0, 0, 0, 4, -13, 3);
        copyIsRefused(x, 0, 4, 3, 0, 2, -13, 3);
        copyIsRefused(x, 0, 1, 3, 1, Integer.MAX_VALUE, -13, 3);
        copyIsRefused(x, 0, Integer.MAX_VALUE, 3, 0, 1, -13, 3);
        copyIsRefused(x, 0, 0, 3, Integer.MIN_VALUE, 1, -13, 3);
        cells(x, 0, 1, 2, 3, 4, 5);
        cells(x, 3, 1, 2, 3);
    }

    private static void copyIsRefused(OldLamps x, int k, int i, int other, int j, int n, int want, int fault) {
        String call = "copy(" + k + ", " + i + ", " + other + ", " + j + ", " + n + ")";
        due.is(call, x.copy(k, i, other, j, n), want);
        due.is("fault() of " + call, x.fault(), fault);
    }

    private static void lampsTell() {
        OldLamps x = Coasts.of("o000000;0;0;0,l2,m1,f2");
        due.is("a lamp", x.tell(0), 2);
        due.is("its body", x.trace(), 1);
        due.is("a mirrored one", x.tell(1), 101);
        due.is("its bodies", x.trace(), (1 * 31 + 2) * 31 + 1);
        x = Coasts.of("o000000;0;0;0,l2,m1,f2");
        due.is("a feast one", x.tell(2), 104);
        due.is("its bodies", x.trace(), ((3 * 31 + 2) * 31 + 1) * 31 + 1);
        x.move(2, 0, 0);
        due.is("where it stands at first", x.tell(2), 104);
        int trace = x.trace();
        due.is("tell(3)", x.tell(3), OldLamps.UNKNOWN);
        due.is("tell(-1)", x.tell(-1), OldLamps.UNKNOWN);
        due.is("no body", x.trace(), trace);
        due.is("tell without a coast", new OldLamps().tell(0), OldLamps.UNKNOWN);
    }

    private static void lampsAreSeen() {
        OldLamps x = Coasts.of("o000000;0;0;0,l2,m1,f2,m0");
        due.is("a lamp", x.see(0), 0);
        due.is("the lent body", x.trace(), 4);
        due.is("a mirrored one", x.see(1), 1);
        due.is("the lent body", x.trace(), 4 * 31 + 4);
        due.is("a feast one", x.see(2), 60);
        due.is("its own body", x.trace(), (4 * 31 + 4) * 31 + 5);
        due.is("the last one", x.see(3), 3);
        int trace = x.trace();
        due.is("see(4)", x.see(4), OldLamps.UNKNOWN);
        due.is("see(-1)", x.see(-1), OldLamps.UNKNOWN);
        due.is("no body", x.trace(), trace);
        due.is("see without a coast", new OldLamps().see(0), OldLamps.UNKNOWN);
    }

    private static void lampsAreOfKinds() {
        OldLamps x = Coasts.of("o000000;0,l0,m0,f0");
        for (int k = 0; k < 3; k++) {
            for (int kind = 0; kind < 3; kind++) {
                String call = "as(" + k + ", " + kind + ")";
                due.is(call, x.as(k, kind), kind <= k ? 1 : -12);
                due.is("fault() of " + call, x.fault(), kind <= k ? 0 : 2);
            }
        }
        x.as(0, 2);
        due.is("as(3, 3)", x.as(3, 3), OldLamps.UNKNOWN);
        due.is("fault() of a refusal", x.fault(), 0);
        due.is("as(-1, 0)", x.as(-1, 0), OldLamps.UNKNOWN);
        due.is("as(0, 3)", x.as(0, 3), OldLamps.OUTSIDE);
        due.is("as(0, -1)", x.as(0, -1), OldLamps.OUTSIDE);
        due.is("as without a coast", new OldLamps().as(0, 3), OldLamps.UNKNOWN);
    }

    private static void traceWraps() {
        OldLamps x = Coasts.of("o000000;0,f0");
        int trace = 0;
        for (int i = 0; i < 40; i++) {
            x.see(0);
            trace = trace * 31 + 5;
            due.is("trace", x.trace(), trace);
        }
        due.is("a text that is not taken", Coasts.read(x, "o1"), -102);
        due.is("leaves it", x.trace(), trace);
        due.is("as one that is taken", Coasts.read(x, "o000000;0,l0"), 1);
        due.is("does", x.trace(), trace);
    }

    private static void faultIsOfTheLatest() {
        OldLamps x = new OldLamps();
        due.is("ahead of any", x.fault(), 0);
        x.put(0, 0, 0);
        due.is("put to nothing", x.fault(), 1);
        due.is("again", x.fault(), 1);
        x.lose(0);
        x.lose(9);
        x.many(9);
        x.tell(0);
        x.light(0, 0);
        x.set(0, 0, 0);
        x.odds(0, 0, 0, 0);
        x.trace();
        due.is("calls that name none leave it", x.fault(), 1);
        x.sheet(0, 0, 3);
        due.is("a call that came to none", x.fault(), 0);
        faultGoes(x, "sheet", x.sheet(9, 0, 3));
        faultGoes(x, "put", x.put(9, 0, 0));
        faultGoes(x, "put", x.put(0, 0, 0));
        faultGoes(x, "cell", x.cell(9, 0, 0));
        faultGoes(x, "cell", x.cell(0, 0, 0));
        faultGoes(x, "copy", x.copy(9, 0, 0, 0, 0));
        faultGoes(x, "copy", x.copy(0, 0, 0, 0, 0));
        faultGoes(x, "as", x.as(9, 0));
        faultGoes(x, "moves", x.moves(9, 0, 0, 0, 0, 0));
        faultGoes(x, "coast", x.coast(9, 0, 0, 0));
        faultGoes(x, "coast", x.coast(0, 0, 0, 0));
        Coasts.read(x, "o000000;0,l0");
        due.is("a coast", x.fault(), 0);
        x.put(0, -1, 0);
        x.as(0, 0);
        due.is("as()", x.fault(), 0);
        x.put(0, -1, 0);
        x.moves(0, 0, 0, 0, 0, 0);
        due.is("moves()", x.fault(), 0);
    }

    /** The call that answered came to no fault, so that there is none; then one is made, for the next such call. */
    private static void faultGoes(OldLamps x, String call, long answer) {
        due.is("fault() behind " + call + " that answered " + answer, x.fault(), 0);
        x.put(0, 3, 0);
        due.is("fault() of put", x.fault(), 3);
    }
}
