/** Promises 19 to 25: readings, and what follows of them; odds. */
public final class Part4ReadingsTest {
    private static final Due due = new Due("Part4ReadingsTest");
    private static final String TEXT = "o950000;1;3,l0,m1";

    public static void main(String[] args) {
        readingsAreTold();
        readingsAreTakenBack();
        withoutReadingsAllIsSo();
        whatFollowsOfOne();
        whatFollowsOfSeveral();
        whatFollowsWithMoves();
        nothingIsOtherwiseAfterwards();
        oddsOfCases();
        refusals();
        due.end();
    }

    private static void readingsAreTold() {
        OldLamps x = Coasts.of(TEXT);
        due.is("reading(2, 24, 1000)", x.reading(2, 24, 1000), OldLamps.UNKNOWN);
        due.is("reading(-1, 0, 0)", x.reading(-1, 0, 0), OldLamps.UNKNOWN);
        due.is("reading(0, 24, 0)", x.reading(0, 24, 0), OldLamps.OUTSIDE);
        due.is("reading(0, -1, 0)", x.reading(0, -1, 0), OldLamps.OUTSIDE);
        due.is("reading(0, 0, 1000)", x.reading(0, 0, 1000), OldLamps.OUTSIDE);
        due.is("reading(0, 0, -1)", x.reading(0, 0, -1), OldLamps.OUTSIDE);
        for (int i = 0; i < 8; i++) due.is("reading number", x.reading(i % 2, 23, i == 0 ? 999 : 0), i);
        due.is("a ninth", x.reading(0, 0, 0), OldLamps.FULL);
        due.is("a ninth that is outside", x.reading(0, 0, 1000), OldLamps.OUTSIDE);
        due.is("a ninth that is unknown", x.reading(2, 0, 0), OldLamps.UNKNOWN);
        due.is("many(3)", x.many(3), 8);
        due.is("without a coast", new OldLamps().reading(0, 24, 1000), OldLamps.UNKNOWN);
    }

    private static void readingsAreTakenBack() {
        OldLamps x = Coasts.of(TEXT);
        due.is("back(1) of none", x.back(1), OldLamps.OUTSIDE);
        x.reading(0, 0, 8);
        x.reading(0, 0, 7);
        x.reading(0, 0, 6);
        due.is("back(-1)", x.back(-1), OldLamps.OUTSIDE);
        due.is("back(4)", x.back(4), OldLamps.OUTSIDE);
        due.is("back(least)", x.back(Integer.MIN_VALUE), OldLamps.OUTSIDE);
        due.is("back(0)", x.back(0), 3);
        due.is("nothing is so", x.clouds(3), 0);
        due.is("back(2)", x.back(2), 1);
        due.is("all is so", x.clouds(3), 1023);
        due.is("the next", x.reading(0, 0, 8), 1);
    }

    private static void withoutReadingsAllIsSo() {
        OldLamps x = Coasts.of(TEXT);
        due.is("stood(0)", x.stood(0), 3);
        due.is("kinds(0)", x.kinds(0), 7);
        due.is("ages()", x.ages(), 8190);
        for (int day = 0; day < 4; day++) due.is("clouds", x.clouds(day), 1023);
        due.is("stood of 4 spots", Coasts.of("o000000;0;0;0;0,l1").stood(0), 15);
    }

    private static void whatFollowsOfOne() {
        OldLamps x = Coasts.of(TEXT);
        due.is("light", x.light(0, 6), 16);
        x.reading(0, 6, 16);
        due.is("stood(0)", x.stood(0), 1);
        due.is("stood(1)", x.stood(1), 2);
        due.is("kinds(0)", x.kinds(0), 1);
        due.is("kinds(1)", x.kinds(1), 7);
        due.is("ages()", x.ages(), 1 << 6);
        due.is("clouds(0)", x.clouds(0), 1);
        due.is("clouds(1)", x.clouds(1), 1);
        due.is("clouds(2)", x.clouds(2), 1023);
        x.back(1);
        x.reading(0, 6, 26);
        due.is("it was a feast one", x.kinds(0), 4);
        due.is("it stood nowhere", x.stood(0), 0);
        x.back(1);
        x.reading(0, 6, 25);
        due.is("the other one stood there too", x.stood(1), 1);
        due.is("the other one was no other kind", x.kinds(1), 0);
        x.back(1);
        x.reading(0, 6, 12);
        due.is("light is 5 watches old", x.ages(), 1 << 5);
        due.is("a cloud of 4 yesterday", x.clouds(0), 1 << 4);
        due.is("or of 4 today", x.clouds(1), 1 << 4);
        x.back(1);
        x.reading(0, 6, 8);
        due.is("clouds of 8 and 9", x.clouds(0), 3 << 8);
        due.is("all ages but those of light", x.ages(), 8190 - 32 - 64);
        due.is("it stood at the other spot", x.stood(0), 2);
    }

    private static void whatFollowsOfSeveral() {
        OldLamps x = Coasts.of(TEXT);
        x.reading(0, 6, 16);
        x.reading(1, 6, 13);
        due.is("light", x.light(1, 6), 13);
        due.is("ages()", x.ages(), 64);
        due.is("kinds(1)", x.kinds(1), 2);
        due.is("clouds(1)", x.clouds(1), 1);
        x.reading(1, 0, 5);
        due.is("no cloud does for all", x.clouds(0), 0);
        due.is("nor does a kind", x.kinds(1), 0);
        due.is("nor an age", x.ages(), 0);
        x.back(3);
        x.cloud(2, 3);
        x.reading(0, 0, 8);
        due.is("the told clouds stand", x.clouds(0), 1);
        x.reading(0, 12, 5 + 8);
        due.is("so did it that day", x.clouds(2), 1 << 3);
        due.is("and the light was as old", x.ages(), 1 << 6 | 1 << 12);
    }

    private static void whatFollowsWithMoves() {
        OldLamps x = Coasts.of(TEXT);
        x.move(0, 6, 1);
        x.reading(1, 6, 6 + 7 + 8);
        due.is("it stood at spot 0 at first", x.stood(0), 1);
        x.move(0, 0, 0);
        due.is("moved at once it stood anywhere", x.stood(0), 3);
    }

    private static void nothingIsOtherwiseAfterwards() {
        OldLamps x = Coasts.of(TEXT);
        x.cloud(0, 1);
        x.reading(0, 6, 1);
        x.stood(0);
        x.kinds(0);
        x.ages();
        x.clouds(0);
        x.odds(0, 6, 1, 0);
        due.is("spot", x.ofLamp(0, 1), 0);
        due.is("kind", x.ofLamp(0, 0), 0);
        due.is("age", x.many(4), 6);
        due.is("light", x.light(0, 6), 8 + 7);
        due.is("cloud", x.cloud(0, 0), 1);
        due.is("readings", x.many(3), 1);
    }

    private static void odds(OldLamps x, int spot, int watch, int v, int upper, int lower) {
        String call = "odds(" + spot + ", " + watch + ", " + v + ", ";
        due.is(call + "0)", x.odds(spot, watch, v, 0), upper);
        due.is(call + "1)", x.odds(spot, watch, v, 1), lower);
    }

    private static void oddsOfCases() {
        OldLamps x = Coasts.of(TEXT);
        x.cloud(0, 5);
        x.reading(0, 0, 999);
        odds(x, 0, 6, 0, 1, 1);
        odds(x, 0, 6, 8, 3, 4);
        odds(x, 0, 6, 9, 1, 4);
        odds(x, 0, 6, 16, 1, 4);
        odds(x, 0, 6, 17, 0, 1);
        odds(x, 0, 0, 8, 1, 2);
        odds(x, 0, 2, 1, 0, 1);
        odds(x, 0, 23, 999, 0, 1);
        x.age(12);
        odds(x, 0, 6, 9, 0, 1);
        x = Coasts.of("o900000;0,l0,l0");
        odds(x, 0, 18, 63, 1, 16);
        odds(x, 0, 18, 1, 15, 16);
        odds(x, 0, 18, 54, 1, 8);
    }

    private static void refusals() {
        OldLamps x = Coasts.of(TEXT);
        due.is("stood(2)", x.stood(2), OldLamps.UNKNOWN);
        due.is("stood(-1)", x.stood(-1), OldLamps.UNKNOWN);
        due.is("kinds(2)", x.kinds(2), OldLamps.UNKNOWN);
        due.is("kinds(-1)", x.kinds(-1), OldLamps.UNKNOWN);
        due.is("clouds(-1)", x.clouds(-1), OldLamps.OUTSIDE);
        due.is("clouds(4)", x.clouds(4), OldLamps.OUTSIDE);
        due.is("odds of no spot", x.odds(2, 0, 0, 0), OldLamps.LOST);
        due.is("odds of spot -1", x.odds(-1, 0, 0, 0), OldLamps.LOST);
        due.is("odds in watch 24", x.odds(0, 24, 0, 0), OldLamps.LOST);
        due.is("odds in watch -1", x.odds(0, -1, 0, 0), OldLamps.LOST);
        due.is("odds of 1000", x.odds(0, 0, 1000, 0), OldLamps.LOST);
        due.is("odds of -1", x.odds(0, 0, -1, 0), OldLamps.LOST);
        due.is("odds which 2", x.odds(0, 0, 0, 2), OldLamps.LOST);
        due.is("odds which -1", x.odds(0, 0, 0, -1), OldLamps.LOST);
        x = new OldLamps();
        due.is("stood without a coast", x.stood(0), OldLamps.UNKNOWN);
        due.is("kinds without a coast", x.kinds(0), OldLamps.UNKNOWN);
        due.is("ages without a coast", x.ages(), OldLamps.STATE);
        due.is("clouds without a coast", x.clouds(3), OldLamps.STATE);
        due.is("clouds(4) without a coast", x.clouds(4), OldLamps.OUTSIDE);
        due.is("odds without a coast", x.odds(0, 0, 0, 0), OldLamps.LOST);
    }
}
