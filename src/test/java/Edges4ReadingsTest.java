import java.util.Arrays;

/** Promises 19 to 25, a test for each sentence that names an end: readings, what follows of them, odds. */
public final class Edges4ReadingsTest {
    private static final Due due = new Due("Edges4ReadingsTest");

    public static void main(String[] args) {
        eightReadings();
        aReadingIsNumberedByHowManyAreAhead();
        readingsOf0And999();
        noneToEightAreTakenBack();
        withoutReadingsAllSetsAreFull();
        allReadingsAreSo();
        setsOfTheFirstAndOfTheLast();
        setsOfNone();
        oneThingAloneIsOtherwise();
        setsByTryingEach();
        setsChangeNothing();
        agesAndCloudsWithoutACoast();
        oddsOfNoneAndOfAll();
        oddsInLeastTerms();
        oddsInPlaceOfWhatItIs();
        oddsByTryingEach();
        oddsBehindATextThatIsNotTaken();
        oddsAreLost();
        oddsChangeNothing();
        due.end();
    }

    /** "READINGS, 8 at most"; FULL is told behind UNKNOWN and OUTSIDE, and a ninth leaves the eight as they are. */
    private static void eightReadings() {
        OldLamps x = Coasts.of("o900000;0,l0");
        for (int i = 0; i < 8; i++) due.is("reading", x.reading(0, 0, 9), i);
        due.is("a ninth", x.reading(0, 0, 0), OldLamps.FULL);
        due.is("a ninth of no spot", x.reading(1, 24, 1000), OldLamps.UNKNOWN);
        due.is("a ninth in watch 24", x.reading(0, 24, 0), OldLamps.OUTSIDE);
        due.is("a ninth in watch -1", x.reading(0, -1, 0), OldLamps.OUTSIDE);
        due.is("a ninth of 1000", x.reading(0, 0, 1000), OldLamps.OUTSIDE);
        due.is("a ninth of -1", x.reading(0, 0, -1), OldLamps.OUTSIDE);
        due.is("many(3)", x.many(3), 8);
        due.is("the eight are so", x.clouds(0), 1);
    }

    /** "each numbered by how many there are ahead of it (the first one 0)". */
    private static void aReadingIsNumberedByHowManyAreAhead() {
        OldLamps x = Coasts.of("o900000;0,l0");
        due.is("the first", x.reading(0, 23, 1), 0);
        due.is("the second", x.reading(0, 0, 1), 1);
        x.back(1);
        due.is("the second again", x.reading(0, 0, 1), 1);
        x.back(2);
        due.is("the first again", x.reading(0, 0, 1), 0);
        for (int i = 1; i < 8; i++) x.reading(0, 0, 1);
        x.back(1);
        due.is("the eighth again", x.reading(0, 0, 1), 7);
        due.is("a ninth", x.reading(0, 0, 1), OldLamps.FULL);
    }

    /** "v (0 .. 999)". */
    private static void readingsOf0And999() {
        OldLamps x = Coasts.of("o900000;0,l0");
        due.is("0", x.reading(0, 1, 0), 0);
        due.is("it is so", x.clouds(3), 1023);
        due.is("999", x.reading(0, 1, 999), 1);
        due.is("it is not so", x.clouds(3), 0);
        due.is("1000", x.reading(0, 1, 1000), OldLamps.OUTSIDE);
        due.is("-1", x.reading(0, 1, -1), OldLamps.OUTSIDE);
        due.is("watch 0", x.reading(0, 0, 0), 2);
        due.is("watch 23", x.reading(0, 23, 0), 3);
    }

    /** "The last k READINGS (0 .. as many as there are) are taken back: how many are left". */
    private static void noneToEightAreTakenBack() {
        for (int told = 0; told <= 8; told++) {
            for (int k = 0; k <= told; k++) {
                OldLamps x = Coasts.of("o900000;0,l0");
                for (int i = 0; i < told; i++) x.reading(0, i == 0 ? 0 : 1, 0);
                due.is("one more than there are", x.back(told + 1), OldLamps.OUTSIDE);
                due.is("back(-1)", x.back(-1), OldLamps.OUTSIDE);
                due.is("many(3)", x.many(3), told);
                due.is("back(" + k + ") of " + told, x.back(k), told - k);
                due.is("many(3)", x.many(3), told - k);
                due.is("the first is the last that is left", x.clouds(0), told == k ? 1023 : 512);
            }
        }
    }

    /** "All that follows": of no READING, all. */
    private static void withoutReadingsAllSetsAreFull() {
        for (int spots = 1; spots <= 4; spots++) {
            OldLamps x = Coasts.of("o900000" + ";0".repeat(spots) + ",l0,m0,f0,l0");
            for (int k = 0; k < 4; k++) {
                due.is("stood(" + k + ") of " + spots, x.stood(k), (1 << spots) - 1);
                due.is("kinds(" + k + ")", x.kinds(k), 7);
            }
            due.is("ages()", x.ages(), 8190);
            for (int day = 0; day < 4; day++) due.is("clouds(" + day + ")", x.clouds(day), 1023);
        }
    }

    /** "all READINGS are so": eight that are, then each of the eight in turn one that is not. */
    private static void allReadingsAreSo() {
        for (int wrong = -1; wrong < 8; wrong++) {
            OldLamps x = Coasts.of("o987654;0;1;2;3,l0,m1,f2,l3");
            for (int i = 0; i < 8; i++) {
                // No kind, spot, cloud or age makes it so: it is more than all lamps give together.
                x.reading(i % 4, 3 * i, i == wrong ? 500 : x.light(i % 4, 3 * i));
            }
            for (int k = 0; k < 4; k++) {
                due.is("stood(" + k + ")", x.stood(k) >> k & 1, wrong < 0 ? 1 : 0);
                due.is("kinds(" + k + ")", x.kinds(k) >> k % 3 & 1, wrong < 0 ? 1 : 0);
                due.is("clouds(" + k + ")", x.clouds(k) & 1, wrong < 0 ? 1 : 0);
                if (wrong >= 0) due.is("no kind, spot, cloud", x.stood(k) + x.kinds(k) + x.clouds(k), 0);
            }
            due.is("ages()", x.ages(), wrong < 0 ? 1 << 6 : 0);
        }
    }

    /** Sets with the least, or the most number alone. */
    private static void setsOfTheFirstAndOfTheLast() {
        OldLamps x = Coasts.of("o900000;0;9;9;0,l3");
        x.reading(0, 6, 18);
        due.is("stood: spot 0", x.stood(0), 1);
        x.back(1);
        x.reading(3, 6, 18);
        due.is("stood: spot 3", x.stood(0), 8);
        x = Coasts.of("o900000;0,m0");
        int[] light = {18, 19, 29};
        for (int kind = 0; kind < 3; kind++) {
            x.reading(0, 6, light[kind]);
            due.is("kinds: " + kind, x.kinds(0), 1 << kind);
            x.back(1);
        }
        x = Coasts.of("o900000;0,l0");
        x.reading(0, 1, 9);
        due.is("ages: 1", x.ages(), 1 << 1);
        x.back(1);
        x.cloud(1, 9);
        x.reading(0, 12, 18);
        due.is("ages: 12", x.ages(), 1 << 12);
        x = Coasts.of("o900000;0,l0");
        for (int day = 0; day < 4; day++) {
            x.reading(0, 6 * day, day == 0 ? 9 : 18);
            due.is("clouds: 0", x.clouds(day), 1);
            x.back(1);
            x.reading(0, 6 * day, day == 0 ? 0 : 9);
            due.is("clouds: 9", x.clouds(day), 1 << 9);
            x.back(1);
            x.reading(0, 6 * day, day == 0 ? 8 : 17);
            due.is("clouds: 1", x.clouds(day), 1 << 1);
            x.back(1);
        }
        x = Coasts.of("o500000;0,l0");
        x.reading(0, 0, 0);
        due.is("clouds of as much as there is, and more", x.clouds(0), 1023 - 31);
    }

    private static void setsOfNone() {
        OldLamps x = Coasts.of("o900000;0;9,l0");
        x.reading(0, 0, 10);
        due.is("stood", x.stood(0), 0);
        due.is("kinds", x.kinds(0), 0);
        due.is("ages", x.ages(), 0);
        for (int day = 0; day < 4; day++) due.is("clouds", x.clouds(day), 0);
        x = Coasts.of("o900000;0,l0,l0");
        x.reading(0, 0, 9);
        x.reading(0, 0, 8);
        due.is("two that can't be so together", x.clouds(0), 0);
    }

    /** "if one thing alone were otherwise": what two things otherwise would bring about is in no set. */
    private static void oneThingAloneIsOtherwise() {
        OldLamps x = Coasts.of("o900000;0,l0,l0");
        x.reading(0, 6, 9 + 20 + 20);
        due.is("both would have to be feast ones", x.kinds(0) + x.kinds(1), 0);
        x.back(1);
        x.reading(0, 6, 9 + 20 + 9);
        due.is("either may", x.kinds(0), 4);
        due.is("either may", x.kinds(1), 4);
        x.back(1);
        x.cloud(0, 9);
        x.cloud(1, 9);
        x.reading(0, 6, 9 + 9 + 9);
        due.is("both days would have to be clear", x.clouds(0) + x.clouds(1), 0);
        x.back(1);
        x.reading(0, 6, 9 + 9);
        due.is("the first day", x.clouds(0), 1);
        due.is("the second one is no matter", x.clouds(1), 0);
    }

    /** A coast of the same text and telling, but for one thing. */
    private static OldLamps otherwise(String lamps, int age, int day, int cloud) {
        OldLamps x = Coasts.of("o350912;0;1;3" + lamps);
        x.age(age);
        for (int d = 0; d < 4; d++) x.cloud(d, d == day ? cloud : d);
        x.move(0, 9, 2);
        x.move(1, 14, 0);
        return x;
    }

    private static int bitIfSo(OldLamps other, int[][] readings, int told, int bit) {
        for (int i = 0; i < told; i++) {
            if (other.light(readings[i][0], readings[i][1]) != readings[i][2]) return 0;
        }
        return 1 << bit;
    }

    private static void setsByTryingEach() {
        int[][] asked = {{2, 3}, {2, 9}, {0, 21}, {1, 6}, {0, 7}, {1, 13}, {0, 1}, {2, 8}};
        String[] lamps = {",l0", ",m1", ",f2"};
        String all = String.join("", lamps);
        for (int first = 0; first < 8; first++) {
            for (int[] nudge : new int[][] {{0, 0}, {0, 1}, {1, 0}, {1, 1}}) {
                OldLamps x = otherwise(all, 6, 0, 0);
                int[][] told = new int[2][];
                for (int i = 0; i < 2; i++) {
                    int spot = asked[(first + 3 * i) % 8][0];
                    int watch = asked[(first + 3 * i) % 8][1];
                    // As it is, or by a cloud of 1 less.
                    told[i] = new int[] {spot, watch, Math.max(0, x.light(spot, watch) - nudge[i])};
                    x.reading(spot, watch, told[i][2]);
                }
                for (int many = 2; many >= 1; many--) {
                    setsAreAsTried(x, lamps, told, many);
                    x.back(1);
                }
            }
        }
    }

    private static void setsAreAsTried(OldLamps x, String[] lamps, int[][] told, int many) {
        String name = Arrays.deepToString(told) + " " + many;
        String all = String.join("", lamps);
        for (int k = 0; k < 3; k++) {
            int stood = 0;
            int kinds = 0;
            for (int i = 0; i < 3; i++) {
                String elsewhere = all.replace(lamps[k], lamps[k].substring(0, 2) + i);
                String otherKind = all.replace(lamps[k], "," + "lmf".charAt(i) + lamps[k].charAt(2));
                stood |= bitIfSo(otherwise(elsewhere, 6, 0, 0), told, many, i);
                kinds |= bitIfSo(otherwise(otherKind, 6, 0, 0), told, many, i);
            }
            due.is("stood(" + k + ") by " + name, x.stood(k), stood);
            due.is("kinds(" + k + ") by " + name, x.kinds(k), kinds);
        }
        int ages = 0;
        for (int age = 1; age <= 12; age++) ages |= bitIfSo(otherwise(all, age, 0, 0), told, many, age);
        due.is("ages() by " + name, x.ages(), ages);
        for (int day = 0; day < 4; day++) {
            int clouds = 0;
            for (int v = 0; v <= 9; v++) clouds |= bitIfSo(otherwise(all, 6, day, v), told, many, v);
            due.is("clouds(" + day + ") by " + name, x.clouds(day), clouds);
        }
    }

    private static void setsChangeNothing() {
        OldLamps x = State.most().made();
        for (int k = 0; k < 4; k++) {
            x.stood(k);
            x.kinds(k);
            x.clouds(k);
            x.ages();
        }
        due.holds("all is as it was", Arrays.equals(State.seen(x), State.seen(State.most().made())));
    }

    /** "OUTSIDE; STATE: there is no COAST". */
    private static void agesAndCloudsWithoutACoast() {
        OldLamps x = new OldLamps();
        due.is("ages()", x.ages(), OldLamps.STATE);
        due.is("clouds(0)", x.clouds(0), OldLamps.STATE);
        due.is("clouds(3)", x.clouds(3), OldLamps.STATE);
        due.is("clouds(4)", x.clouds(4), OldLamps.OUTSIDE);
        due.is("clouds(-1)", x.clouds(-1), OldLamps.OUTSIDE);
    }

    private static void odds(OldLamps x, int spot, int watch, int v, int upper, int lower) {
        String call = "odds(" + spot + ", " + watch + ", " + v + ", ";
        due.is(call + "0)", x.odds(spot, watch, v, 0), upper);
        due.is(call + "1)", x.odds(spot, watch, v, 1), lower);
    }

    /** "so much or more": 0 always, 999 never; the lower number is above 0. */
    private static void oddsOfNoneAndOfAll() {
        OldLamps x = Coasts.of("o900000;0;9,l0");
        for (int watch = 0; watch < 24; watch++) {
            odds(x, 0, watch, 0, 1, 1);
            odds(x, 0, watch, 999, 0, 1);
            odds(x, 1, watch, 1, 0, 1);
        }
        odds(x, 0, 0, 9, 1, 2);
        odds(x, 0, 0, 10, 0, 1);
    }

    /** "upper and lower number (above 0) in least terms": of 16 cases as many as there may be. */
    private static void oddsInLeastTerms() {
        OldLamps x = Coasts.of("o900000;0,l0,l0");
        odds(x, 0, 0, 1, 1, 2);
        odds(x, 0, 6, 1, 3, 4);
        odds(x, 0, 6, 18, 1, 2);
        odds(x, 0, 6, 19, 1, 4);
        odds(x, 0, 12, 1, 7, 8);
        odds(x, 0, 12, 45, 1, 8);
        odds(x, 0, 18, 1, 15, 16);
        odds(x, 0, 18, 63, 1, 16);
        odds(x, 0, 18, 64, 0, 1);
        odds(x, 0, 18, 54, 1, 8);
        odds(x, 0, 18, 45, 5, 16);
        odds(x, 0, 18, 19, 11, 16);
    }

    /** "if each DAY is overcast (CLOUD 9), or clear (0), in place of what it is". */
    private static void oddsInPlaceOfWhatItIs() {
        OldLamps x = Coasts.of("o900000;0,l0,l0");
        OldLamps y = Coasts.of("o900000;0,l0,l0");
        for (int day = 0; day < 4; day++) x.cloud(day, 3 * day);
        for (int i = 0; i < 8; i++) x.reading(0, i, 100);
        for (int watch = 0; watch < 24; watch++) {
            for (int v = 0; v < 64; v += 9) {
                odds(x, 0, watch, v, (int) y.odds(0, watch, v, 0), (int) y.odds(0, watch, v, 1));
            }
        }
    }

    private static void oddsByTryingEach() {
        String[] texts = {"o952731;0;2,l0,m1,f0", "o999999;0;1;2;3,f0,m0,l1,f3"};
        for (String text : texts) {
            for (int watch = 0; watch < 24; watch++) {
                for (int v : new int[] {0, 1, 9, 10, 20, 45, 99, 200, 999}) {
                    OldLamps x = Coasts.of(text);
                    x.move(0, 13, 1);
                    x.age(1 + watch % 12);
                    int so = 0;
                    for (int clear = 0; clear < 16; clear++) {
                        for (int day = 0; day < 4; day++) x.cloud(day, (clear >> day & 1) == 1 ? 0 : 9);
                        if (x.light(1, watch) >= v) so++;
                    }
                    int common = 16;
                    while (so % common != 0 || 16 % common != 0) common--;
                    odds(x, 1, watch, v, so / common, 16 / common);
                }
            }
        }
    }

    private static void oddsBehindATextThatIsNotTaken() {
        OldLamps x = Coasts.of("o900000;0,l0,l0");
        due.is("a text", Coasts.read(x, "o111111;5;5,f1,x"), -115);
        odds(x, 0, 18, 63, 1, 16);
        odds(x, 0, 18, 64, 0, 1);
    }

    /** "LOST: UNKNOWN: SPOT; OUTSIDE: watch, v (0 .. 999), which". */
    private static void oddsAreLost() {
        OldLamps x = Coasts.of("o900000;0,l0");
        int[][] lost = {{-1, 0, 0, 0}, {1, 0, 0, 0}, {0, -1, 0, 0}, {0, 24, 0, 0}, {0, 0, -1, 0}, {0, 0, 1000, 0},
            {0, 0, 0, -1}, {0, 0, 0, 2}, {1, 24, 1000, 2}};
        x.put(0, 0, 0);
        for (int[] n : lost) {
            due.is("odds" + Arrays.toString(n), x.odds(n[0], n[1], n[2], n[3]), OldLamps.LOST);
            due.is("it names no fault", x.fault(), 1);
        }
        due.is("without a coast", new OldLamps().odds(0, 0, 0, 0), OldLamps.LOST);
        due.is("the last of all", x.odds(0, 23, 999, 1), 1);
    }

    private static void oddsChangeNothing() {
        OldLamps x = State.most().made();
        for (int spot = 0; spot < 4; spot++) x.odds(spot, 23, 20, 0);
        due.holds("all is as it was", Arrays.equals(State.seen(x), State.seen(State.most().made())));
    }
}
