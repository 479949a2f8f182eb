/** Promises 10 to 14, a test for each sentence that names an end: places, light that falls and is given, darkness. */
public final class Edges2WatchesTest {
    private static final Due due = new Due("Edges2WatchesTest");

    public static void main(String[] args) {
        byDayItIs0AtLeast();
        sixWatchesToEachDay();
        theSkyIsThatOfTheWatchOfTheDay();
        aLampStandsAtItsFirstSpotAtFirst();
        fromTheFirstWatchOn();
        fromTheLastWatchOn();
        theLatestWatchThatHasCome();
        theLatestToldOfOneWatch();
        eachLampByItsOwnMoves();
        nothingAheadOfWatch0();
        asMuchOneMoreAndTwice();
        nothingByNothing();
        givesNinetyNineAtMost();
        theMostThatFallsAndTheMostLight();
        fallsWithoutItsOwn();
        fallsAndLightAtItsSpotAlone();
        darkFromTheWatchItself();
        darkIsBelowNotAsMuch();
        darkInTheLastWatch();
        darkBelow0And999();
        due.end();
    }

    /** What falls on a lamp alone is what its spot has by day. */
    private static void byDay(OldLamps x, int from, int... want) {
        for (int i = 0; i < want.length; i++) due.is("by day in " + (from + i), x.falls(0, from + i), want[i]);
    }

    /** "By DAY a SPOT has SKY .., less its SHADE, less the CLOUD of that DAY (0 at least)". */
    private static void byDayItIs0AtLeast() {
        OldLamps x = Coasts.of("o012345;3,l0");
        byDay(x, 0, 0, 0, 0, 0, 1, 2);
        x.cloud(0, 1);
        byDay(x, 0, 0, 0, 0, 0, 0, 1);
        x.cloud(0, 2);
        byDay(x, 0, 0, 0, 0, 0, 0, 0);
        x.cloud(0, 9);
        byDay(x, 0, 0, 0, 0, 0, 0, 0);
        due.is("light is 0 at least, too", x.light(0, 0), 0);
        x = Coasts.of("o999999;9;0;8,l0");
        due.is("the most shade", x.light(0, 0), 0);
        due.is("no shade", x.light(1, 0), 9);
        due.is("one less than all", x.light(2, 0), 1);
        x.cloud(0, 9);
        due.is("the most cloud", x.light(1, 0), 0);
        due.is("the most shade and cloud", x.light(0, 0), 0);
        x.cloud(0, 8);
        due.is("one less than all", x.light(1, 0), 1);
    }

    /** "WATCHES are 0 .. 23, six to each DAY (0 .. 3)". */
    private static void sixWatchesToEachDay() {
        OldLamps x = Coasts.of("o999999;0,l0");
        for (int day = 0; day < 4; day++) x.cloud(day, day + 1);
        for (int watch = 0; watch < 24; watch++) byDay(x, watch, 9 - 1 - watch / 6);
        due.is("watch 24", x.falls(0, 24), OldLamps.OUTSIDE);
        due.is("watch -1", x.falls(0, -1), OldLamps.OUTSIDE);
    }

    private static void theSkyIsThatOfTheWatchOfTheDay() {
        OldLamps x = Coasts.of("o123456;0,l0");
        for (int day = 0; day < 4; day++) byDay(x, 6 * day, 1, 2, 3, 4, 5, 6);
    }

    private static void stands(OldLamps x, int k, int from, int until, int spot) {
        for (int watch = from; watch <= until; watch++) due.is("where(" + k + ", " + watch + ")", x.where(k, watch), spot);
    }

    private static void aLampStandsAtItsFirstSpotAtFirst() {
        OldLamps x = Coasts.of("o000000;0;0;0;0,l0,l1,l2,l3");
        for (int k = 0; k < 4; k++) stands(x, k, 0, 23, k);
    }

    /** "from a WATCH on a LAMP stands at a SPOT": 0 is one. */
    private static void fromTheFirstWatchOn() {
        OldLamps x = Coasts.of("o000000;0;0;0;0,l0");
        x.move(0, 0, 3);
        stands(x, 0, 0, 23, 3);
        due.is("where it stood at first is otherwise", x.ofLamp(0, 1), 0);
    }

    private static void fromTheLastWatchOn() {
        OldLamps x = Coasts.of("o000000;0;0;0;0,l0");
        x.move(0, 23, 3);
        stands(x, 0, 0, 22, 0);
        stands(x, 0, 23, 23, 3);
    }

    /** "of several that have come for it the one of the latest WATCH". */
    private static void theLatestWatchThatHasCome() {
        OldLamps x = Coasts.of("o000000;0;0;0;0,l0");
        x.move(0, 10, 1);
        x.move(0, 5, 2);
        stands(x, 0, 0, 4, 0);
        stands(x, 0, 5, 9, 2);
        stands(x, 0, 10, 23, 1);
        x.move(0, 9, 3);
        stands(x, 0, 5, 8, 2);
        stands(x, 0, 9, 9, 3);
        stands(x, 0, 10, 23, 1);
    }

    /** "of several of those the latest told". */
    private static void theLatestToldOfOneWatch() {
        OldLamps x = Coasts.of("o000000;0;0;0;0,l0");
        for (int i = 0; i < 8; i++) {
            x.move(0, 7, 3 - i % 4);
            stands(x, 0, 0, 6, 0);
            stands(x, 0, 7, 23, 3 - i % 4);
        }
        x.undo(7);
        stands(x, 0, 7, 23, 3);
    }

    private static void eachLampByItsOwnMoves() {
        OldLamps x = Coasts.of("o000000;0;0;0;0,l0,l0,l0,l0");
        for (int k = 0; k < 4; k++) x.move(k, 3, 3 - k);
        for (int k = 0; k < 4; k++) {
            stands(x, k, 0, 2, 0);
            stands(x, k, 3, 23, 3 - k);
        }
    }

    /** "by what FELL on it AGE WATCHES ago (nothing, if that was ahead of WATCH 0)". */
    private static void nothingAheadOfWatch0() {
        String[] texts = {"o999999;0,l0", "o999999;0,m0", "o999999;0,f0"};
        int[] given = {9, 10, 20};
        for (int kind = 0; kind < 3; kind++) {
            for (int age = 1; age <= 12; age++) {
                OldLamps x = Coasts.of(texts[kind]);
                x.age(age);
                for (int watch = 0; watch < 24; watch++) {
                    int want = watch < age ? 0 : given[kind];
                    due.is("gives of age " + age + " in " + watch, x.gives(0, watch), want);
                    due.is("light of age " + age + " in " + watch, x.light(0, watch), 9 + want);
                }
            }
        }
        OldLamps x = Coasts.of("o999999;0,l0");
        due.is("ages ago, not a day: watch 5", x.gives(0, 5), 0);
        due.is("watch 6", x.gives(0, 6), 9);
    }

    private static void gives(OldLamps x, int watch, int... want) {
        for (int k = 0; k < want.length; k++) {
            due.is("gives(" + k + ", " + watch + ")", x.gives(k, watch), want[k]);
        }
    }

    /** "a LAMP as much; a MIRRORED one 1 more ..; a FEAST one twice what a MIRRORED one does". */
    private static void asMuchOneMoreAndTwice() {
        OldLamps x = Coasts.of("o123459;0;0;0,l0,m1,f2");
        gives(x, 6, 1, 2, 4);
        gives(x, 7, 2, 3, 6);
        gives(x, 8, 3, 4, 8);
        gives(x, 11, 9, 10, 20);
    }

    /** "but nothing by nothing". */
    private static void nothingByNothing() {
        OldLamps x = Coasts.of("o010000;0;0;0,l0,m1,f2");
        gives(x, 6, 0, 0, 0);
        gives(x, 7, 1, 2, 4);
        gives(x, 8, 0, 0, 0);
        x = Coasts.of("o999999;9;9;9,l0,m1,f2");
        for (int watch = 0; watch < 24; watch++) gives(x, watch, 0, 0, 0);
    }

    private static void glow(String text, int k, int watch, int fell, int given) {
        OldLamps x = Coasts.of(text);
        x.age(1);
        due.is(text + ": falls(" + k + ", " + watch + ")", x.falls(k, watch), fell);
        due.is(text + ": gives(" + k + ", " + (watch + 1) + ")", x.gives(k, watch + 1), given);
    }

    /** "99 at most": of a lamp by 98, 99, 100, a mirrored one by 97, 98, 99, a feast one by 48, 49, 50. */
    private static void givesNinetyNineAtMost() {
        glow("o444444;0,f0,l0", 1, 5, 98, 98);
        glow("o444444;0,m0,l0", 1, 21, 99, 99);
        glow("o111111;0,f0,l0", 1, 9, 100, 99);
        glow("o666666;0,m0,l0", 0, 14, 97, 98);
        glow("o444444;0,m0,l0", 0, 21, 98, 99);
        glow("o444444;0,m0,m0", 0, 19, 99, 99);
        glow("o333333;0,f0,l0", 0, 5, 48, 98);
        glow("o444444;0,f0,m0", 0, 4, 49, 99);
        glow("o888888;0,f0,l0", 0, 3, 50, 99);
    }

    /** "(999 at most)" is more than can fall: four lamps that give 99, by day, are not cut. */
    private static void theMostThatFallsAndTheMostLight() {
        OldLamps x = Coasts.of("o999999;0,f0,f0,f0,f0");
        x.age(1);
        for (int watch = 2; watch < 24; watch++) {
            gives(x, watch, 99, 99, 99, 99);
            due.is("falls", x.falls(3, watch), 9 + 3 * 99);
            due.is("light", x.light(0, watch), 9 + 4 * 99);
        }
        due.is("the most is not below the most", x.dark(0, 2, 405), OldLamps.NONE);
        due.is("but below one more", x.dark(0, 2, 406), 2);
        due.is("a reading of it", x.reading(0, 23, 405), 0);
        due.is("is so", x.ages() >> 1 & 1, 1);
    }

    /** "what all other LAMPS at that SPOT GIVE": not what it gives itself. */
    private static void fallsWithoutItsOwn() {
        OldLamps x = Coasts.of("o900000;0,f0");
        due.is("gives", x.gives(0, 6), 20);
        due.is("falls", x.falls(0, 6), 9);
        due.is("light", x.light(0, 6), 29);
        x = Coasts.of("o900000;0,f0,l0");
        due.is("falls on the first", x.falls(0, 6), 9 + 9);
        due.is("falls on the second", x.falls(1, 6), 9 + 20);
    }

    private static void fallsAndLightAtItsSpotAlone() {
        OldLamps x = Coasts.of("o900000;0;0;1,l0,l1,l1");
        due.is("one alone", x.falls(0, 6), 9);
        due.is("one of two", x.falls(1, 6), 18);
        due.is("light of one", x.light(0, 6), 18);
        due.is("light of two", x.light(1, 6), 27);
        due.is("light of none", x.light(2, 6), 8);
        x.move(2, 6, 2);
        due.is("it falls where it has come to", x.falls(2, 6), 8);
        due.is("it gives where it has come to", x.light(2, 6), 17);
        due.is("and no more where it was", x.light(1, 6), 18);
        due.is("nor falls it there", x.falls(1, 6), 9);
    }

    private static void dark(OldLamps x, int watch, int v, int want) {
        due.is("dark(0, " + watch + ", " + v + ")", x.dark(0, watch, v), want);
    }

    /** "the first WATCH from one on". */
    private static void darkFromTheWatchItself() {
        OldLamps x = Coasts.of("o900000;0,l0");
        dark(x, 0, 10, 0);
        dark(x, 1, 1, 1);
        dark(x, 5, 1, 5);
        dark(x, 6, 1, 7);
        dark(x, 6, 19, 6);
        dark(x, 6, 18, 7);
        dark(x, 0, 1, 1);
    }

    /** "in which LIGHT of a SPOT is below so much". */
    private static void darkIsBelowNotAsMuch() {
        OldLamps x = Coasts.of("o999999;0,l0");
        dark(x, 0, 9, OldLamps.NONE);
        dark(x, 0, 10, 0);
        dark(x, 5, 10, 5);
        dark(x, 6, 10, OldLamps.NONE);
        dark(x, 6, 18, OldLamps.NONE);
        dark(x, 6, 19, 6);
    }

    private static void darkInTheLastWatch() {
        OldLamps x = Coasts.of("o999999;0,l0");
        dark(x, 23, 18, OldLamps.NONE);
        dark(x, 23, 19, 23);
        x = Coasts.of("o999999;0;9,l0");
        x.move(0, 23, 1);
        dark(x, 6, 18, 23);
        dark(x, 23, 10, 23);
        dark(x, 23, 9, OldLamps.NONE);
    }

    /** "v (0 .. 999)". */
    private static void darkBelow0And999() {
        OldLamps x = Coasts.of("o000000;9,l0");
        for (int watch = 0; watch < 24; watch++) {
            dark(x, watch, 0, OldLamps.NONE);
            dark(x, watch, 1, watch);
            dark(x, watch, 999, watch);
            dark(x, watch, 1000, OldLamps.OUTSIDE);
            dark(x, watch, -1, OldLamps.OUTSIDE);
        }
        dark(x, 24, 0, OldLamps.OUTSIDE);
        dark(x, -1, 0, OldLamps.OUTSIDE);
    }
}
