/** Promises 1 to 9 and 36: a new object, the coast, clouds, age, moves told and taken back, how many there are. */
public final class Part1CoastTest {
    private static final Due due = new Due("Part1CoastTest");
    private static final String TEXT = "o590030;1;4;9,l0,f0,m1";

    public static void main(String[] args) {
        aNewObject();
        aCoastIsTaken();
        faultsOfATextAreFoundWhereTheyStand();
        aTextOfEveryLaneAndPlace();
        coastRefusesInOrder();
        aCoastMakesAllAnew();
        skyShadeAndLamps();
        cloudsBecome();
        ageBecomes();
        movesAreTold();
        movesAreTakenBack();
        howMany();
        due.end();
    }

    private static void aNewObject() {
        OldLamps x = new OldLamps();
        for (int what = 0; what < 5; what++) due.is("many(" + what + ") new", x.many(what), 0);
        due.is("shade(0) new", x.shade(0), OldLamps.UNKNOWN);
        due.is("ofLamp(0, 0) new", x.ofLamp(0, 0), OldLamps.UNKNOWN);
        due.is("trace() new", x.trace(), 0);
        due.is("fault() new", x.fault(), 0);
        for (int k = 0; k < 4; k++) due.is("lose(" + k + ") new", x.lose(k), 0);
        due.is("undo(0) new", x.undo(0), 0);
        due.is("back(0) new", x.back(0), 0);
    }

    private static void aCoastIsTaken() {
        due.is("3 lamps", Coasts.read(new OldLamps(), TEXT), 3);
        due.is("the least text", Coasts.read(new OldLamps(), "o000000;0,l0"), 1);
        due.is("the longest text", Coasts.read(new OldLamps(), "o999999;9;9;9;9,l0,m1,f2,l3"), 4);
    }

    private static void faultsOfATextAreFoundWhereTheyStand() {
        textFault("", 0);
        textFault("x", 0);
        textFault("O590030;1,l0", 0);
        textFault("o59003", 6);
        textFault("o5;1,l0", 2);
        textFault("o59003x;1,l0", 6);
        textFault("o59003:;1,l0", 6);
        textFault("o/90030;1,l0", 1);
        textFault("o590030", 7);
        textFault("o590030,l0", 7);
        textFault("o5900301;1,l0", 7);
        textFault("o590030;", 8);
        textFault("o590030;a,l0", 8);
        textFault("o590030;:,l0", 8);
        textFault("o590030;/,l0", 8);
        textFault("o590030;,l0", 8);
        textFault("o590030;;1,l0", 8);
        textFault("o590030;1", 9);
        textFault("o590030;12,l0", 9);
        textFault("o590030;1,", 10);
        textFault("o590030;1,k0", 10);
        textFault("o590030;1,L0", 10);
        textFault("o590030;1,0", 10);
        textFault("o590030;1,l", 11);
        textFault("o590030;1,l1", 11);
        textFault("o590030;1;2,l2", 13);
        textFault("o590030;1,l/", 11);
        textFault("o590030;1,l0;2", 12);
        textFault("o590030;1,l0m0", 12);
        textFault("o590030;1,l00", 12);
        textFault("o590030;1,l0,", 13);
        textFault("o590030;0;0;0;0;0,l0", 15);
        textFault("o590030;0;0;0;0", 15);
        textFault("o590030;0;0;0;0,l4", 17);
        textFault("o590030;0,l0,l0,l0,l0,l0", 21);
        textFault("o590030;0;0;0;0,f0,f0,f0,f0,", 27);
    }

    private static void textFault(String text, int place) {
        OldLamps x = Coasts.of("o123456;1;2,m1");
        x.move(0, 3, 0);
        x.reading(1, 2, 3);
        due.is("coast of " + text, Coasts.read(x, text), -100 - place);
        due.is("fault() behind " + text, x.fault(), 0);
        due.is("lamps behind " + text, x.many(0), 1);
        due.is("spots behind " + text, x.many(1), 2);
        due.is("moves behind " + text, x.many(2), 1);
        due.is("readings behind " + text, x.many(3), 1);
        due.is("sky(5) behind " + text, x.sky(5), 6);
        due.is("kind behind " + text, x.ofLamp(0, 0), 1);
    }

    private static void aTextOfEveryLaneAndPlace() {
        for (int lane = 0; lane < 3; lane++) {
            OldLamps x = new OldLamps();
            x.sheet(2, lane, 60);
            String text = "o987654;3;2,f1";
            for (int i = 0; i < text.length(); i++) x.put(2, 46 + i, text.charAt(i));
            due.is("coast at the end of a row", x.coast(2, lane, 46, 14), 1);
            due.is("sky(0)", x.sky(0), 9);
            due.is("shade(1)", x.shade(1), 2);
            due.is("ofLamp(0, 1)", x.ofLamp(0, 1), 1);
            due.is("a part of it", x.coast(2, lane, 46, 13), -113);
            due.is("one ahead of it", x.coast(2, lane, 45, 14), -100);
            due.is("none at its end", x.coast(2, lane, 60, 0), -100);
        }
        OldLamps x = new OldLamps();
        Coasts.fill(x, 0, 1, 'o' + 256, '1');
        due.is("a code of shorts is not cut to bytes", x.coast(0, 1, 0, 2), -100);
        Coasts.fill(x, 0, 0, 'o' + 256, '1');
        due.is("a code of bytes is", x.coast(0, 0, 0, 2), -102);
        Coasts.fill(x, 0, 2, 'o', Integer.MIN_VALUE, Integer.MAX_VALUE);
        due.is("the least int is no digit", x.coast(0, 2, 0, 3), -101);
        Coasts.fill(x, 0, 2, 'o', Integer.MAX_VALUE);
        due.is("the most int is no digit", x.coast(0, 2, 0, 2), -101);
    }

    private static void coastRefusesInOrder() {
        OldLamps x = new OldLamps();
        Coasts.write(x, 0, TEXT);
        due.is("coast(-1, 3, ..)", x.coast(-1, 3, -1, -1), OldLamps.UNKNOWN);
        due.is("coast(4, 0, ..)", x.coast(4, 0, 0, 22), OldLamps.UNKNOWN);
        due.is("lane 3", x.coast(0, 3, -1, -1), OldLamps.OUTSIDE);
        due.is("lane -1", x.coast(0, -1, 0, 22), OldLamps.OUTSIDE);
        due.is("lane 3 of nothing", x.coast(1, 3, 0, 22), OldLamps.OUTSIDE);
        due.is("another lane", x.coast(0, 1, -1, -1), -12);
        due.is("fault()", x.fault(), 2);
        due.is("nothing", x.coast(1, 2, -1, -1), -11);
        due.is("fault()", x.fault(), 1);
        due.is("n -1", x.coast(0, 0, -1, -1), -14);
        due.is("fault()", x.fault(), 4);
        due.is("n least", x.coast(0, 0, 0, Integer.MIN_VALUE), -14);
        due.is("i -1", x.coast(0, 0, -1, 0), -13);
        due.is("fault()", x.fault(), 3);
        due.is("i 23, none taken", x.coast(0, 0, 23, 0), -13);
        due.is("i 22, none taken", x.coast(0, 0, 22, 0), -100);
        due.is("fault()", x.fault(), 0);
        due.is("one too many", x.coast(0, 0, 0, 23), -13);
        due.is("far too many", x.coast(0, 0, 1, Integer.MAX_VALUE), -13);
        due.is("i most", x.coast(0, 0, Integer.MAX_VALUE, Integer.MAX_VALUE), -13);
        due.is("i least", x.coast(0, 0, Integer.MIN_VALUE, 1), -13);
        due.is("refused", x.coast(4, 0, 0, 1), OldLamps.UNKNOWN);
        due.is("fault() of a refusal", x.fault(), 0);
        due.is("no coast came of it", x.many(0), 0);
    }

    private static void aCoastMakesAllAnew() {
        OldLamps x = Coasts.of(TEXT);
        x.move(0, 1, 2);
        x.reading(0, 0, 4);
        for (int day = 0; day < 4; day++) x.cloud(day, 7);
        x.age(3);
        x.tell(0);
        x.odds(0, 0, 0, 0);
        Coasts.fill(x, 0, 2, 77);
        due.is("another text", Coasts.read(x, "o111111;0,m0"), 1);
        due.is("lamps", x.many(0), 1);
        due.is("spots", x.many(1), 1);
        due.is("no moves", x.many(2), 0);
        due.is("no readings", x.many(3), 0);
        due.is("age", x.many(4), 6);
        for (int day = 0; day < 4; day++) due.is("no clouds", x.cloud(day, 1), 0);
        due.is("trace stays", x.trace(), 1);
        due.is("sheets stay", x.cell(0, 0, 2), 77);
        due.is("no lamp 1", x.ofLamp(1, 0), OldLamps.UNKNOWN);
        due.is("no spot 1", x.shade(1), OldLamps.UNKNOWN);
        due.is("the kind is new", x.ofLamp(0, 0), 1);
        x.put(Coasts.TEXT_SHEET, 1, '9');
        due.is("a coast is no sheet", x.sky(0), 1);
    }

    private static void skyShadeAndLamps() {
        OldLamps x = new OldLamps();
        due.is("sky(6) without a coast", x.sky(6), OldLamps.OUTSIDE);
        due.is("sky(-1) without a coast", x.sky(-1), OldLamps.OUTSIDE);
        due.is("sky(5) without a coast", x.sky(5), OldLamps.STATE);
        x = Coasts.of(TEXT);
        int[] sky = {5, 9, 0, 0, 3, 0};
        for (int watch = 0; watch < 6; watch++) due.is("sky(" + watch + ")", x.sky(watch), sky[watch]);
        due.is("sky(-1)", x.sky(-1), OldLamps.OUTSIDE);
        due.is("sky(6)", x.sky(6), OldLamps.OUTSIDE);
        int[] shade = {1, 4, 9};
        for (int spot = 0; spot < 3; spot++) due.is("shade(" + spot + ")", x.shade(spot), shade[spot]);
        due.is("shade(-1)", x.shade(-1), OldLamps.UNKNOWN);
        due.is("shade(3)", x.shade(3), OldLamps.UNKNOWN);
        int[] kinds = {0, 2, 1};
        int[] spots = {0, 0, 1};
        for (int k = 0; k < 3; k++) {
            due.is("kind of " + k, x.ofLamp(k, 0), kinds[k]);
            due.is("first spot of " + k, x.ofLamp(k, 1), spots[k]);
        }
        due.is("ofLamp(-1, 2)", x.ofLamp(-1, 2), OldLamps.UNKNOWN);
        due.is("ofLamp(3, 0)", x.ofLamp(3, 0), OldLamps.UNKNOWN);
        due.is("ofLamp(0, -1)", x.ofLamp(0, -1), OldLamps.OUTSIDE);
        due.is("ofLamp(0, 2)", x.ofLamp(0, 2), OldLamps.OUTSIDE);
        x.move(0, 0, 2);
        due.is("a move leaves the first spot", x.ofLamp(0, 1), 0);
    }

    private static void cloudsBecome() {
        OldLamps x = new OldLamps();
        due.is("cloud(4, 10) without a coast", x.cloud(4, 10), OldLamps.STATE);
        x = Coasts.of(TEXT);
        due.is("cloud(3, 9)", x.cloud(3, 9), 0);
        due.is("cloud(3, 2)", x.cloud(3, 2), 9);
        due.is("cloud(3, 10)", x.cloud(3, 10), OldLamps.OUTSIDE);
        due.is("cloud(3, -1)", x.cloud(3, -1), OldLamps.OUTSIDE);
        due.is("cloud(-1, 0)", x.cloud(-1, 0), OldLamps.OUTSIDE);
        due.is("cloud(4, 0)", x.cloud(4, 0), OldLamps.OUTSIDE);
        due.is("cloud(3, 0)", x.cloud(3, 0), 2);
        due.is("cloud(0, 1)", x.cloud(0, 1), 0);
        due.is("watch 1 is of day 0", x.light(0, 1), 7);
        due.is("watch 7 is of day 1", x.light(0, 7) - x.gives(0, 7) - x.gives(1, 7), 8);
    }

    private static void ageBecomes() {
        OldLamps x = new OldLamps();
        due.is("age(0) without a coast", x.age(0), OldLamps.OUTSIDE);
        due.is("age(13) without a coast", x.age(13), OldLamps.OUTSIDE);
        due.is("age(12) without a coast", x.age(12), OldLamps.STATE);
        x = Coasts.of(TEXT);
        due.is("age(1)", x.age(1), 6);
        due.is("age(12)", x.age(12), 1);
        due.is("age(0)", x.age(0), OldLamps.OUTSIDE);
        due.is("age(13)", x.age(13), OldLamps.OUTSIDE);
        due.is("many(4)", x.many(4), 12);
        due.is("gives by 12 watches ago", x.gives(0, 13), 8);
        due.is("nothing 6 watches later", x.gives(0, 7), 0);
    }

    private static void movesAreTold() {
        OldLamps x = new OldLamps();
        due.is("move without a coast", x.move(0, 24, 0), OldLamps.UNKNOWN);
        x = Coasts.of(TEXT);
        due.is("move(3, 24, 0)", x.move(3, 24, 0), OldLamps.UNKNOWN);
        due.is("move(-1, 0, 0)", x.move(-1, 0, 0), OldLamps.UNKNOWN);
        due.is("move(0, 24, 3)", x.move(0, 24, 3), OldLamps.UNKNOWN);
        due.is("move(0, 0, -1)", x.move(0, 0, -1), OldLamps.UNKNOWN);
        due.is("move(0, 24, 0)", x.move(0, 24, 0), OldLamps.OUTSIDE);
        due.is("move(0, -1, 0)", x.move(0, -1, 0), OldLamps.OUTSIDE);
        for (int i = 0; i < 8; i++) due.is("move number", x.move(i % 3, 23 - i, i % 2), i);
        due.is("a ninth", x.move(0, 0, 0), OldLamps.FULL);
        due.is("a ninth that is outside", x.move(0, 24, 0), OldLamps.OUTSIDE);
        due.is("a ninth that is unknown", x.move(3, 0, 0), OldLamps.UNKNOWN);
        due.is("many(2)", x.many(2), 8);
    }

    private static void movesAreTakenBack() {
        OldLamps x = Coasts.of(TEXT);
        due.is("undo(1) of none", x.undo(1), OldLamps.OUTSIDE);
        x.move(0, 2, 1);
        x.move(0, 4, 2);
        x.move(0, 6, 1);
        due.is("undo(-1)", x.undo(-1), OldLamps.OUTSIDE);
        due.is("undo(4)", x.undo(4), OldLamps.OUTSIDE);
        due.is("undo(least)", x.undo(Integer.MIN_VALUE), OldLamps.OUTSIDE);
        due.is("undo(0)", x.undo(0), 3);
        due.is("undo(1)", x.undo(1), 2);
        due.is("the latest is gone", x.where(0, 23), 2);
        due.is("undo(2)", x.undo(2), 0);
        due.is("all are gone", x.where(0, 23), 0);
        due.is("the next is the first", x.move(1, 0, 1), 0);
    }

    private static void howMany() {
        OldLamps x = Coasts.of(TEXT);
        x.move(0, 0, 0);
        x.move(0, 0, 0);
        x.reading(0, 0, 0);
        int[] many = {3, 3, 2, 1, 6};
        for (int what = 0; what < 5; what++) due.is("many(" + what + ")", x.many(what), many[what]);
        due.is("many(5)", x.many(5), OldLamps.OUTSIDE);
        due.is("many(-1)", x.many(-1), OldLamps.OUTSIDE);
        x = Coasts.of("o000000;0;0,l1");
        due.is("one lamp", x.many(0), 1);
        due.is("two spots", x.many(1), 2);
    }
}
