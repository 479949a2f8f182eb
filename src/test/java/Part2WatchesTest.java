/** Promises 10 to 14: where lamps stand, what they give, what falls on them, how light spots are, when one is dark. */
public final class Part2WatchesTest {
    private static final Due due = new Due("Part2WatchesTest");
    private static final String TEXT = "o520000;1;0,l0,m0,f1";

    public static void main(String[] args) {
        lampsStandByMoves();
        lampsGive();
        lampsGiveByAge();
        mostThatIsGiven();
        lightFalls();
        spotsAreLight();
        movedLampsTakeTheirLightAlong();
        fourLampsAtFourSpots();
        spotsAreDark();
        refusals();
        due.end();
    }

    private static void lampsStandByMoves() {
        OldLamps x = Coasts.of("o000000;0;0;0;0,l0,m3");
        due.is("where at first", x.where(0, 0), 0);
        due.is("where at last", x.where(1, 23), 3);
        x.move(0, 5, 1);
        x.move(0, 10, 2);
        x.move(0, 7, 3);
        x.move(0, 10, 3);
        x.move(0, 5, 0);
        x.move(1, 0, 2);
        due.is("ahead of all", x.where(0, 4), 0);
        due.is("the latest told of one watch", x.where(0, 5), 0);
        due.is("till the next", x.where(0, 6), 0);
        due.is("from 7 on", x.where(0, 7), 3);
        due.is("till 10", x.where(0, 9), 3);
        due.is("from 10 on the latest told", x.where(0, 10), 3);
        due.is("the latest watch ahead of the latest told", x.where(0, 23), 3);
        due.is("another lamp from 0 on", x.where(1, 0), 2);
        x.undo(3);
        due.is("the earlier told of one watch", x.where(0, 10), 2);
        due.is("at 5", x.where(0, 5), 1);
        due.is("the other stands at first", x.where(1, 23), 3);
    }

    private static void lampsGive() {
        OldLamps x = Coasts.of(TEXT);
        int[][] gives = {
            {0, 0, 0, 0}, {0, 5, 0, 0}, {0, 6, 4, 1}, {1, 6, 5, 1}, {2, 6, 12, 1}, {0, 7, 1, 1}, {1, 7, 2, 1}, {2, 7, 6, 1},
            {0, 8, 0, 0}, {1, 8, 0, 0}, {2, 8, 0, 0}, {0, 12, 9, 0}, {1, 12, 9, 0}, {2, 12, 12, 0}};
        for (int[] row : gives) due.is("gives(" + row[0] + ", " + row[1] + ")", x.gives(row[0], row[1]), row[2]);
    }

    private static void lampsGiveByAge() {
        OldLamps x = Coasts.of("o123456;0,l0");
        x.age(1);
        due.is("age 1, watch 0", x.gives(0, 0), 0);
        for (int watch = 1; watch < 24; watch++) {
            due.is("age 1, watch " + watch, x.gives(0, watch), (watch - 1) % 6 + 1);
        }
        x.age(12);
        due.is("age 12, watch 11", x.gives(0, 11), 0);
        due.is("age 12, watch 12", x.gives(0, 12), 1);
        due.is("age 12, watch 23", x.gives(0, 23), 6);
    }

    private static void mostThatIsGiven() {
        OldLamps x = Coasts.of("o999999;0,f0,m0,l0");
        x.age(1);
        due.is("watch 1", x.gives(0, 1) * 10000 + x.gives(1, 1) * 100 + x.gives(2, 1), 201009);
        due.is("watch 2", x.gives(0, 2) * 10000 + x.gives(1, 2) * 100 + x.gives(2, 2), 583939);
        due.is("a feast one at most", x.gives(0, 3), 99);
        due.is("a mirrored one at most", x.gives(1, 3), 99);
        due.is("a lamp at most", x.gives(2, 3), 99);
        due.is("all at most", x.light(0, 23), 9 + 3 * 99);
        due.is("what falls has no such bound", x.falls(0, 23), 9 + 2 * 99);
    }

    private static void lightFalls() {
        OldLamps x = Coasts.of(TEXT);
        int[][] falls = {{0, 0, 4}, {1, 0, 4}, {2, 0, 5}, {0, 1, 1}, {2, 1, 2}, {0, 2, 0}, {0, 6, 9}, {1, 6, 8}, {2, 6, 5},
            {0, 7, 3}, {1, 7, 2}, {0, 12, 13}, {1, 12, 13}};
        for (int[] row : falls) due.is("falls(" + row[0] + ", " + row[1] + ")", x.falls(row[0], row[1]), row[2]);
        x.move(2, 6, 0);
        due.is("one more at the spot", x.falls(0, 6), 21);
        due.is("on the one that came", x.falls(2, 6), 13);
    }

    private static void spotsAreLight() {
        OldLamps x = Coasts.of(TEXT);
        due.is("by day", x.light(0, 0), 4);
        due.is("by day without shade", x.light(1, 0), 5);
        due.is("night", x.light(0, 2), 0);
        due.is("with lamps", x.light(0, 6), 13);
        due.is("with a feast", x.light(1, 6), 17);
        due.is("two days on", x.light(0, 12), 22);
        x.cloud(1, 2);
        due.is("a cloud by day", x.light(0, 6), 11);
        due.is("no light below 0", x.light(0, 7), 3);
        due.is("the other days are as they were", x.light(0, 0), 4);
        due.is("what fell under the cloud", x.light(0, 12), 4 + 7 + 7);
    }

    private static void movedLampsTakeTheirLightAlong() {
        OldLamps x = Coasts.of("o900000;0;9,l0");
        x.move(0, 6, 1);
        due.is("its light of yesterday", x.light(1, 6), 9);
        due.is("is no more at its old spot", x.light(0, 6), 9);
        due.is("what falls on it there", x.falls(0, 6), 0);
        due.is("and so it gives a day later", x.gives(0, 12), 0);
    }

    private static void fourLampsAtFourSpots() {
        OldLamps x = Coasts.of("o987654;0;1;2;3,l0,l1,l2,f3");
        int[] gives = {9, 8, 7, 14};
        int[] light = {18, 16, 14, 20};
        for (int number = 0; number < 4; number++) {
            due.is("where", x.where(number, 23), number);
            due.is("gives", x.gives(number, 6), gives[number]);
            due.is("falls", x.falls(number, 6), 9 - number);
            due.is("light", x.light(number, 6), light[number]);
            due.is("dark", x.dark(number, 0, 5 - number), 5);
        }
        x.move(3, 6, 0);
        due.is("spot 0 has two", x.light(0, 6), 32);
        due.is("spot 3 has none", x.light(3, 6), 6);
    }

    private static void spotsAreDark() {
        OldLamps x = Coasts.of(TEXT);
        due.is("dark at once", x.dark(0, 2, 1), 2);
        due.is("dark later", x.dark(0, 0, 1), 2);
        due.is("below just so much", x.dark(0, 0, 4), 1);
        due.is("not by as much", x.dark(0, 0, 1000 - 1), 0);
        due.is("below 0", x.dark(0, 0, 0), OldLamps.NONE);
        x = Coasts.of("o999990;0,l0");
        due.is("in the last watch", x.dark(0, 18, 9), 23);
        due.is("from the last one on", x.dark(0, 23, 1), 23);
        due.is("from one behind a dark one", x.dark(0, 6, 1), 11);
        x = Coasts.of("o999999;0,l0");
        due.is("never", x.dark(0, 0, 9), OldLamps.NONE);
        due.is("from 0 on", x.dark(0, 0, 10), 0);
        due.is("not from 6 on", x.dark(0, 6, 18), OldLamps.NONE);
    }

    private static void refusals() {
        OldLamps x = Coasts.of(TEXT);
        int[][] wrong = {{-1, 0}, {3, 0}, {-1, 24}, {Integer.MAX_VALUE, -1}};
        for (int[] row : wrong) {
            due.is("where of no lamp", x.where(row[0], row[1]), OldLamps.UNKNOWN);
            due.is("gives of no lamp", x.gives(row[0], row[1]), OldLamps.UNKNOWN);
            due.is("falls of no lamp", x.falls(row[0], row[1]), OldLamps.UNKNOWN);
            due.is("light of no spot", x.light(row[0], row[1]), OldLamps.UNKNOWN);
            due.is("dark of no spot", x.dark(row[0], row[1], -1), OldLamps.UNKNOWN);
        }
        due.is("light(2, 0)", x.light(2, 0), OldLamps.UNKNOWN);
        for (int watch : new int[] {-1, 24, Integer.MIN_VALUE}) {
            due.is("where outside", x.where(0, watch), OldLamps.OUTSIDE);
            due.is("gives outside", x.gives(0, watch), OldLamps.OUTSIDE);
            due.is("falls outside", x.falls(0, watch), OldLamps.OUTSIDE);
            due.is("light outside", x.light(0, watch), OldLamps.OUTSIDE);
            due.is("dark outside", x.dark(0, watch, 0), OldLamps.OUTSIDE);
        }
        due.is("dark below -1", x.dark(0, 0, -1), OldLamps.OUTSIDE);
        due.is("dark below 1000", x.dark(0, 0, 1000), OldLamps.OUTSIDE);
        x = new OldLamps();
        due.is("where without a coast", x.where(0, 24), OldLamps.UNKNOWN);
        due.is("gives without a coast", x.gives(0, 24), OldLamps.UNKNOWN);
        due.is("falls without a coast", x.falls(0, 24), OldLamps.UNKNOWN);
        due.is("light without a coast", x.light(0, 24), OldLamps.UNKNOWN);
        due.is("dark without a coast", x.dark(0, 24, -1), OldLamps.UNKNOWN);
    }
}
