import java.util.Arrays;

/** Promises 15 to 18, a test for each sentence that names an end: the best move, moves of a sheet, worths. */
public final class Edges3MovesTest {
    private static final int CAST = -12, NULL = -11, INDEX = -13, NONE = OldLamps.NONE;
    private static final Due due = new Due("Edges3MovesTest");

    public static void main(String[] args) {
        setIsMoreThanNow();
        setByOneMore();
        setAtTheLeastLampThenWatchThenSpot();
        setToldFromTheLeastToTheMost();
        setInTheFirstAndTheLastWatch();
        setAlsoWhereThereAre8();
        setIsBehindAllToldOnes();
        showIsFewerThanNow();
        showByOneFewer();
        showAtTheLeastLampThenWatchThenSpot();
        showToldFromTheLeastToTheMost();
        showBelow0And999();
        showAlsoWhereThereAre8();
        bestMovesAreNotMade();
        bestMovesByTryingEach();
        noMovesInPlaceOfAll();
        eightMovesInPlaceOfAll();
        movesAtTheEndsOfARow();
        movesRefusedThreeByThree();
        movesOfEachLane();
        movesChangeNothing();
        worthOfNothing();
        worthIsOfAllSpotsAndWatches();
        worthByALampLeftOut();
        due.end();
    }

    private static void set(OldLamps x, int spot, int watch, int move, int light) {
        due.is("set(" + spot + ", " + watch + ", 0)", x.set(spot, watch, 0), move);
        due.is("set(" + spot + ", " + watch + ", 1)", x.set(spot, watch, 1), light);
    }

    private static void show(OldLamps x, int spot, int v, int move, int below) {
        due.is("show(" + spot + ", " + v + ", 0)", x.show(spot, v, 0), move);
        due.is("show(" + spot + ", " + v + ", 1)", x.show(spot, v, 1), below);
    }

    /** "more than now"; "NONE: by none it is more", LIGHT "as now". */
    private static void setIsMoreThanNow() {
        set(Coasts.of("o900000;0,l0"), 0, 6, NONE, 18);
        OldLamps x = Coasts.of("o900000;0;0,l0");
        set(x, 0, 6, NONE, 18);
        set(x, 1, 6, 1, 18);
        x.move(0, 0, 1);
        set(x, 1, 6, NONE, 18);
        x = Coasts.of("o000000;0;0;0;0,l0,m1,f2,f3");
        for (int watch = 0; watch < 24; watch++) set(x, 0, watch, NONE, 0);
        // What a lamp brings along is nothing, so that it is as light as now, and not more.
        set(Coasts.of("o900000;0;9;9,l1"), 0, 5, NONE, 0);
        set(Coasts.of("o900000;9;9;9,l1"), 0, 6, NONE, 0);
    }

    private static void setByOneMore() {
        set(Coasts.of("o100000;0;9,l0"), 1, 6, 11, 1);
        OldLamps x = Coasts.of("o900000;0;8;9,l0,l1");
        x.move(0, 6, 2);
        x.move(1, 6, 2);
        set(x, 2, 6, 1000, 18);
        x.move(1, 0, 0);
        set(x, 2, 6, NONE, 18);
    }

    /** "of several the least LAMP, then WATCH, then SPOT". */
    private static void setAtTheLeastLampThenWatchThenSpot() {
        set(Coasts.of("o900000;0;9,l0,l0,l0,l0"), 1, 6, 11, 9);
        set(Coasts.of("o900000;0;9,l1,l0,l0,l0"), 1, 6, 1011, 9);
        set(Coasts.of("o900000;0;9,l1,l1,l1,l0"), 1, 6, 3011, 9);
        set(Coasts.of("o111111;0;9,l0"), 1, 23, 181, 1);
        OldLamps x = Coasts.of("o900000;9;0;0;0,l0");
        x.move(0, 6, 0);
        set(x, 0, 6, 1, 9);
        x = Coasts.of("o900000;9;1;0;0,l0");
        x.move(0, 6, 0);
        set(x, 0, 6, 2, 9);
        x = Coasts.of("o900000;9;1;1;0,l0");
        x.move(0, 6, 0);
        set(x, 0, 6, 3, 9);
        // The least lamp, though its watch is later and its spot is higher.
        set(Coasts.of("o090000;9;9;9;0,l3,l3"), 2, 7, 22, 9);
        x = Coasts.of("o900000;0;9,l1,l0");
        x.move(0, 6, 1);
        x.move(1, 6, 1);
        set(x, 1, 6, 0, 18);
    }

    /** "1000 times the LAMP, and 10 times the WATCH, and the SPOT": from 0 to 3233. */
    private static void setToldFromTheLeastToTheMost() {
        set(Coasts.of("o900000;0;9,l1"), 0, 6, 0, 18);
        OldLamps x = Coasts.of("o999999;0;9;9;9,l1,l1,l1,l0");
        x.move(3, 23, 0);
        set(x, 3, 23, 3233, 9);
    }

    private static void setInTheFirstAndTheLastWatch() {
        OldLamps x = Coasts.of("o999999;0;0;9,l0,m1,f1");
        for (int spot = 0; spot < 3; spot++) {
            for (int watch = 0; watch < 6; watch++) set(x, spot, watch, NONE, spot == 2 ? 0 : 9);
        }
        set(Coasts.of("o999999;0;9,l0"), 1, 23, 181, 9);
        OldLamps y = Coasts.of("o999999;0;9,l0");
        y.age(1);
        set(y, 1, 0, NONE, 0);
        set(y, 1, 1, 11, 9);
    }

    /** "(also where there are 8; behind all told ones)". */
    private static void setAlsoWhereThereAre8() {
        OldLamps x = Coasts.of("o900000;0;9,l0,l1");
        for (int told = 0; told <= 8; told++) {
            set(x, 1, 6, 11, 9);
            due.is("many(2)", x.many(2), told);
            due.is("move", x.move(1, 23, 1), told < 8 ? told : OldLamps.FULL);
        }
        for (int i = 0; i < 8; i++) {
            x.undo(1);
            set(x, 1, 6, 11, 9);
        }
    }

    private static void setIsBehindAllToldOnes() {
        OldLamps x = Coasts.of("o900000;0;9,l0");
        x.move(0, 6, 0);
        set(x, 1, 6, 61, 9);
        set(x, 1, 5, NONE, 0);
        for (int i = 1; i < 8; i++) x.move(0, 6, 0);
        set(x, 1, 6, 61, 9);
        x.undo(7);
        x.move(0, 3, 0);
        set(x, 1, 6, 61, 9);
        x.undo(2);
        x.move(0, 5, 1);
        set(x, 1, 6, NONE, 9);
    }

    /** "fewer than now"; "NONE: by none they are fewer", how many "as now". */
    private static void showIsFewerThanNow() {
        show(Coasts.of("o999999;0,l0"), 0, 18, NONE, 6);
        OldLamps x = Coasts.of("o999999;0;9,l0");
        show(x, 0, 10, NONE, 6);
        show(x, 0, 18, NONE, 6);
        show(x, 0, 19, NONE, 24);
        show(x, 0, 9, NONE, 0);
        show(x, 1, 10, NONE, 24);
        show(Coasts.of("o000000;0;0;0;0,l0,m1,f2,f3"), 0, 1, NONE, 24);
        // Lighter, but below so much as often.
        show(Coasts.of("o900000;0;0;9,l0"), 2, 10, NONE, 24);
    }

    private static void showByOneFewer() {
        show(Coasts.of("o900000;0;9,l0"), 1, 1, 11, 23);
        OldLamps x = Coasts.of("o900000;0;9,l0");
        x.move(0, 6, 1);
        x.move(0, 7, 0);
        show(x, 1, 1, 131, 22);
    }

    /** "of several likewise". */
    private static void showAtTheLeastLampThenWatchThenSpot() {
        show(Coasts.of("o900000;0;9,l0,l0,l0,l0"), 1, 1, 11, 23);
        show(Coasts.of("o900000;0;9,l1,l0,l0,l0"), 1, 1, 1011, 21);
        show(Coasts.of("o900000;0;9,l1,l1,l1,l0"), 1, 1, 3011, 21);
        show(Coasts.of("o999999;0;9,l0"), 1, 1, 61, 18);
        OldLamps x = Coasts.of("o900000;9;0;0;0,l0");
        x.move(0, 6, 0);
        show(x, 0, 1, 1, 23);
        x = Coasts.of("o900000;9;1;0;0,l0");
        x.move(0, 6, 0);
        show(x, 0, 9, 2, 23);
        x = Coasts.of("o900000;9;1;1;0,l0");
        x.move(0, 6, 0);
        show(x, 0, 9, 3, 23);
    }

    private static void showToldFromTheLeastToTheMost() {
        show(Coasts.of("o999999;0;9,l1"), 0, 10, 0, 6);
        OldLamps x = Coasts.of("o000009;0;9;9;9,l1,l1,l1,l0");
        x.cloud(0, 9);
        x.cloud(1, 9);
        x.move(3, 23, 0);
        show(x, 3, 1, 3233, 23);
    }

    /** "v (0 .. 999)". */
    private static void showBelow0And999() {
        OldLamps x = State.most().made();
        for (int spot = 0; spot < 4; spot++) {
            show(x, spot, 0, NONE, 0);
            show(x, spot, 999, NONE, 24);
            show(x, spot, 1000, OldLamps.OUTSIDE, OldLamps.OUTSIDE);
            show(x, spot, -1, OldLamps.OUTSIDE, OldLamps.OUTSIDE);
        }
    }

    private static void showAlsoWhereThereAre8() {
        OldLamps x = Coasts.of("o900000;0;9,l0,l1");
        for (int told = 0; told <= 8; told++) {
            show(x, 1, 1, 11, 21);
            due.is("many(2)", x.many(2), told);
            due.is("move", x.move(1, 23, 1), told < 8 ? told : OldLamps.FULL);
        }
    }

    private static void bestMovesAreNotMade() {
        OldLamps x = State.most().made();
        long[] seen = State.seen(State.most().made());
        for (int spot = 0; spot < 4; spot++) {
            for (int what = 0; what < 2; what++) {
                x.set(spot, 23, what);
                x.show(spot, 30, what);
            }
        }
        due.holds("all is as it was", Arrays.equals(State.seen(x), seen));
    }

    /** Each move is told to a coast of its own: the first of the best ones is due. */
    private static void bestMovesByTryingEach() {
        String[] texts = {"o900000;0;9,l0", "o304050;1;0;5;2,l0,m1,f2,f2", "o999999;0;1;2;3,f0,f1,m2,l3", "o010203;2;0,m1,f0,l1"};
        for (String text : texts) {
            for (int age : new int[] {1, 6, 12}) {
                int spots = moved(text, age).many(1);
                for (int spot = 0; spot < spots; spot++) {
                    for (int watch : new int[] {0, 5, 6, 13, 23}) bySetting(text, age, spot, watch);
                    for (int v : new int[] {1, 8, 20}) byShowing(text, age, spot, v);
                }
            }
        }
    }

    private static OldLamps moved(String text, int age) {
        OldLamps x = Coasts.of(text);
        x.age(age);
        x.move(0, 12, 1);
        x.move(x.many(0) - 1, 4, 0);
        return x;
    }

    /** By lamp, then by watch, then by spot. */
    private static int[] allMoves(OldLamps x) {
        int[] all = new int[x.many(0) * 24 * x.many(1)];
        for (int i = 0; i < all.length; i++) {
            int spot = i % x.many(1);
            int watch = i / x.many(1) % 24;
            all[i] = 1000 * (i / x.many(1) / 24) + 10 * watch + spot;
        }
        return all;
    }

    private static void bySetting(String text, int age, int spot, int watch) {
        int best = moved(text, age).light(spot, watch);
        int move = NONE;
        for (int code : allMoves(moved(text, age))) {
            OldLamps x = moved(text, age);
            x.move(code / 1000, code % 1000 / 10, code % 10);
            if (x.light(spot, watch) > best) {
                best = x.light(spot, watch);
                move = code;
            }
        }
        set(moved(text, age), spot, watch, move, best);
    }

    private static void byShowing(String text, int age, int spot, int v) {
        int best = below(moved(text, age), spot, v);
        int move = NONE;
        for (int code : allMoves(moved(text, age))) {
            OldLamps x = moved(text, age);
            x.move(code / 1000, code % 1000 / 10, code % 10);
            int below = below(x, spot, v);
            if (below < best) {
                best = below;
                move = code;
            }
        }
        show(moved(text, age), spot, v, move, best);
    }

    private static int below(OldLamps x, int spot, int v) {
        int below = 0;
        for (int watch = 0; watch < 24; watch++) if (x.light(spot, watch) < v) below++;
        return below;
    }

    /** "MOVES of n times three such cells .. in place of all", n 0. */
    private static void noMovesInPlaceOfAll() {
        OldLamps x = Coasts.of("o900000;0;9,l0");
        x.sheet(0, 0, 0);
        due.is("of a row of no cell, none told", x.moves(0, 6, 0, 0, 0, 0), 18);
        for (int i = 0; i < 8; i++) x.move(0, 6, 1);
        due.is("of a row of no cell, eight told", x.moves(0, 6, 0, 0, 0, 0), 18);
        due.is("the eight stand", x.light(0, 6), 9);
        due.is("i 1 of a row of no cell", x.moves(0, 6, 0, 0, 1, 0), INDEX);
        due.is("i -1 of a row of no cell", x.moves(0, 6, 0, 0, -1, 0), INDEX);
        x.sheet(0, 0, 60);
        for (int i = 0; i <= 60; i++) due.is("from " + i + " on", x.moves(0, 6, 0, 0, i, 0), 18);
        due.is("from 61 on", x.moves(0, 6, 0, 0, 61, 0), INDEX);
    }

    private static void eightMovesInPlaceOfAll() {
        OldLamps x = Coasts.of("o999999;0;0;0;9,l0");
        for (int i = 0; i < 8; i++) x.move(0, i, 2);
        int[] cells = new int[24];
        for (int i = 0; i < 8; i++) {
            cells[3 * i + 1] = 6 + 2 * i;
            cells[3 * i + 2] = i % 2 == 0 ? 1 : 3;
        }
        Coasts.fill(x, 0, 0, cells);
        int[] lightOf3 = {0, 0, 9, 9, 0, 0, 9, 9, 0, 0, 9, 9, 0, 0, 9, 9, 0, 0};
        for (int watch = 6; watch < 24; watch++) {
            int want = watch < 14 ? lightOf3[watch - 6] : x.moves(3, watch, 0, 0, 0, 8);
            due.is("light of 3 in " + watch, x.moves(3, watch, 0, 0, 0, 8), want);
        }
        due.is("the eighth", x.moves(1, 20, 0, 0, 0, 8), 9);
        due.is("without the eighth", x.moves(1, 20, 0, 0, 0, 7), 9 + 9);
        due.is("nine", x.moves(1, 20, 0, 0, 0, 9), OldLamps.OUTSIDE);
        due.is("the told ones stand", x.where(0, 23), 2);
    }

    private static void movesAtTheEndsOfARow() {
        OldLamps x = Coasts.of("o900000;0;9,l0");
        x.sheet(0, 2, 60);
        due.is("the last 24 cells", x.moves(0, 6, 0, 2, 36, 8), 18);
        due.is("one beyond", x.moves(0, 6, 0, 2, 37, 8), INDEX);
        due.is("the last 3 cells", x.moves(0, 6, 0, 2, 57, 1), 18);
        due.is("one beyond", x.moves(0, 6, 0, 2, 58, 1), INDEX);
        due.is("none at the end", x.moves(0, 6, 0, 2, 60, 0), 18);
        due.is("one at the end", x.moves(0, 6, 0, 2, 60, 1), INDEX);
        due.is("one ahead", x.moves(0, 6, 0, 2, -1, 1), INDEX);
        due.is("the most", x.moves(0, 6, 0, 2, Integer.MAX_VALUE, 8), INDEX);
        due.is("the least", x.moves(0, 6, 0, 2, Integer.MIN_VALUE, 8), INDEX);
        x.sheet(0, 2, 2);
        due.is("of too short a row", x.moves(0, 6, 0, 2, 0, 1), INDEX);
        due.is("of another lane ahead of the cells", x.moves(0, 6, 0, 1, 0, 1), CAST);
        due.is("of nothing ahead of the cells", x.moves(0, 6, 1, 1, -1, 1), NULL);
    }

    /** "three by three UNKNOWN: LAMP; OUTSIDE: WATCH; UNKNOWN: SPOT": the first wrong one of any two is due. */
    private static void movesRefusedThreeByThree() {
        int[] answers = {OldLamps.UNKNOWN, OldLamps.OUTSIDE, OldLamps.UNKNOWN};
        int[][] wrong = {{-1, 2, -128, 127}, {-1, 24, -128, 127}, {-1, 3, -128, 127}};
        for (int first = 0; first < 24; first++) {
            OldLamps x = Coasts.of("o900000;0;9;9,l0,l0");
            x.sheet(0, 0, 24);
            for (int number : wrong[first % 3]) {
                x.put(0, first, number);
                due.is("cell " + first + " is " + number, x.moves(0, 0, 0, 0, 0, 8), answers[first % 3]);
                due.is("fault()", x.fault(), 0);
                due.is("ahead of it", x.moves(0, 0, 0, 0, 0, first / 3), 9);
            }
            for (int second = first + 1; second < 24; second++) {
                x.put(0, second, wrong[second % 3][1]);
                due.is("cells " + first + ", " + second, x.moves(0, 0, 0, 0, 0, 8), answers[first % 3]);
                x.put(0, second, 0);
            }
        }
        OldLamps x = Coasts.of("o900000;0;9;9,l0,l0");
        Coasts.fill(x, 0, 1, 1, 23, 2, 0, 0, 0);
        due.is("the most of each, and the least", x.moves(0, 0, 0, 1, 0, 2), 9);
    }

    private static void movesOfEachLane() {
        int[] least = {-128, -32768, Integer.MIN_VALUE};
        int[] most = {127, 32767, Integer.MAX_VALUE};
        for (int lane = 0; lane < 3; lane++) {
            OldLamps x = Coasts.of("o900000;0;9,l0");
            Coasts.fill(x, 0, lane, 0, 6, 1);
            due.is("taken", x.moves(1, 6, 0, lane, 0, 1), 9);
            for (int place = 0; place < 3; place++) {
                Coasts.fill(x, 0, lane, 0, 6, 1);
                int want = place == 1 ? OldLamps.OUTSIDE : OldLamps.UNKNOWN;
                x.put(0, place, least[lane]);
                due.is("the least of lane " + lane, x.moves(1, 6, 0, lane, 0, 1), want);
                x.put(0, place, most[lane]);
                due.is("the most of lane " + lane, x.moves(1, 6, 0, lane, 0, 1), want);
            }
            for (int other = 0; other < 3; other++) {
                if (other != lane) due.is("lane " + other, x.moves(1, 6, 0, other, 0, 1), CAST);
            }
        }
        OldLamps x = Coasts.of("o900000;0;9,l0");
        Coasts.fill(x, 0, 0, 256, 262, 257);
        due.is("cells cut to bytes", x.moves(1, 6, 0, 0, 0, 1), 9);
    }

    /** "LIGHT of a SPOT .. by them": a question, that changes nothing. */
    private static void movesChangeNothing() {
        OldLamps x = State.most().made();
        long[] seen = State.seen(State.most().made());
        due.holds("taken", x.moves(0, 23, 1, 1, 0, 8) >= 0);
        due.is("fault()", x.fault(), 0);
        due.holds("all is as it was", Arrays.equals(State.seen(x), seen));
    }

    private static void worthOfNothing() {
        due.is("by night", Coasts.of("o000000;0,f0").worth(0), 0);
        due.is("in the shade", Coasts.of("o999999;9,f0").worth(0), 0);
        OldLamps x = Coasts.of("o000009;0,l0");
        for (int day = 0; day < 3; day++) x.cloud(day, 9);
        due.is("by what fell at last alone", x.worth(0), 0);
        x.age(1);
        due.is("also with age 1", x.worth(0), 0);
        x.cloud(0, 8);
        due.is("by 1 once", x.worth(0), 1);
        x.age(12);
        due.is("12 watches later", x.worth(0), 1);
    }

    /** "LIGHT of all SPOTS in all WATCHES together, less that without it". */
    private static void worthIsOfAllSpotsAndWatches() {
        OldLamps x = Coasts.of("o999999;0,l0");
        due.is("from watch 6 to 23", x.worth(0), 18 * 9);
        x.age(12);
        due.is("from watch 12 to 23", x.worth(0), 12 * 9);
        x.age(1);
        due.is("from watch 1 to 23", x.worth(0), 23 * 9);
        x = Coasts.of("o100000;0;9;9;9,l0");
        x.age(1);
        for (int i = 0; i < 4; i++) x.move(0, 6 * i + 1, 3 - i);
        x.move(0, 6, 0);
        x.move(0, 12, 0);
        x.move(0, 18, 0);
        due.is("at each spot once", x.worth(0), 4);
        x = Coasts.of("o999999;0,f0,f0,f0,f0");
        x.age(1);
        // 9, 89 and 22 times 405, less 9, 69 and 22 times 306.
        due.is("also of what others give by it", x.worth(3), 20 + 22 * 99);
    }

    /** The light of a coast whose text leaves the lamp out. */
    private static void worthByALampLeftOut() {
        String[] lamps = {",l0", ",m1", ",f2", ",f1"};
        for (int out = 0; out < 4; out++) {
            for (int age : new int[] {1, 6, 12}) {
                OldLamps with = Coasts.of("o351900;1;0;2" + String.join("", lamps));
                String[] left = lamps.clone();
                left[out] = "";
                OldLamps without = Coasts.of("o351900;1;0;2" + String.join("", left));
                with.age(age);
                without.age(age);
                for (int k = 0; k < 4; k++) {
                    with.move(k, 5 + 3 * k, (k + 1) % 3);
                    if (k != out) without.move(k < out ? k : k - 1, 5 + 3 * k, (k + 1) % 3);
                }
                due.is("worth(" + out + ") of age " + age, with.worth(out), allLight(with) - allLight(without));
            }
        }
    }

    private static int allLight(OldLamps x) {
        int all = 0;
        for (int spot = 0; spot < x.many(1); spot++) {
            for (int watch = 0; watch < 24; watch++) all += x.light(spot, watch);
        }
        return all;
    }
}
