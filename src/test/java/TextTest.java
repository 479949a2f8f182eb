import java.util.Arrays;

/** Promise 2, the text: which codes are one, and where the FIRST FAULT of others stands. */
public final class TextTest {
    private static final Due due = new Due("TextTest");
    /** Every sign of a text, the codes next to each, and such as are one when they are cut to bytes. */
    private static final int[] CODES = {Integer.MIN_VALUE, -1, 0, 10, 32, 43, ',', 45, 47, '0', '1', '2', '3', '4', '5',
        '6', '7', '8', '9', 58, ';', 60, 'L', 'M', 'F', 'O', 101, 'f', 103, 107, 'l', 'm', 110, 'o', 112, 127, 255,
        'o' + 256, '0' + 256, ';' + 65536, ',' + 256, 'l' + 256, Integer.MAX_VALUE};

    public static void main(String[] args) {
        fromOneToFourSpotsAndLamps();
        everyTextThatJustEndsTooSoon();
        everyCodeInEveryPlace();
        aFifthSpotAndAFifthLamp();
        digitsToTheirEnds();
        theSpotOfALampIsOneThatThereIs();
        theLettersOfTheKinds();
        theCodesThatAreTold();
        noCodes();
        due.end();
    }

    private static String text(int spots, int lamps) {
        StringBuilder text = new StringBuilder("o907030");
        for (int s = 0; s < spots; s++) text.append(';').append(9 - s);
        for (int k = 0; k < lamps; k++) text.append(',').append("lmfl".charAt(k)).append((k + 1) % spots);
        return text.toString();
    }

    private static void fromOneToFourSpotsAndLamps() {
        for (int spots = 1; spots <= 4; spots++) {
            for (int lamps = 1; lamps <= 4; lamps++) {
                OldLamps x = new OldLamps();
                String text = text(spots, lamps);
                due.is(text, Coasts.read(x, text), lamps);
                due.is("lamps of " + text, x.many(0), lamps);
                due.is("spots of " + text, x.many(1), spots);
                for (int s = 0; s < spots; s++) due.is("shade of " + text, x.shade(s), 9 - s);
                for (int k = 0; k < lamps; k++) {
                    due.is("kind of " + text, x.ofLamp(k, 0), k % 3);
                    due.is("first spot of " + text, x.ofLamp(k, 1), (k + 1) % spots);
                }
                due.is("the last spot", x.shade(spots), OldLamps.UNKNOWN);
                due.is("the last lamp", x.ofLamp(lamps, 0), OldLamps.UNKNOWN);
            }
        }
    }

    private static void everyTextThatJustEndsTooSoon() {
        String text = text(4, 4);
        for (int n = 0; n < text.length(); n++) {
            boolean isWhole = n >= 18 && n % 3 == 0;
            due.is("the first " + n + " of " + text, Coasts.read(new OldLamps(), text.substring(0, n)),
                isWhole ? (n - 15) / 3 : -100 - n);
        }
        due.is("all of " + text, Coasts.read(new OldLamps(), text), 4);
    }

    private static void everyCodeInEveryPlace() {
        String[] texts = {text(1, 1), text(2, 1), text(1, 3), text(4, 4), text(3, 2)};
        for (String text : texts) {
            int[] codes = text.chars().toArray();
            for (int place = 0; place <= codes.length; place++) {
                for (int code : CODES) {
                    int[] put = new int[codes.length + 1];
                    System.arraycopy(codes, 0, put, 0, place);
                    put[place] = code;
                    System.arraycopy(codes, place, put, place + 1, codes.length - place);
                    isDue(put);
                    if (place == codes.length) continue;
                    int[] other = codes.clone();
                    other[place] = code;
                    isDue(other);
                }
            }
        }
    }

    private static void isDue(int... codes) {
        isDue(new OldLamps(), codes);
        isDue(Coasts.of("o999999;9;9;9;9,f3,f3,f3,f3"), codes);
    }

    private static void isDue(OldLamps x, int... codes) {
        int fault = Shapes.firstFault(codes);
        int lamps = x.many(0);
        Coasts.fill(x, 1, 2, codes);
        int answer = x.coast(1, 2, 0, codes.length);
        String told = Arrays.toString(codes);
        if (fault == Shapes.TAKEN) due.holds("taken: " + told + ", answers " + answer, answer >= 1 && answer == x.many(0));
        else due.is(told, answer, -100 - fault);
        if (fault != Shapes.TAKEN) due.is("lamps behind " + told, x.many(0), lamps);
        due.is("fault() behind " + told, x.fault(), 0);
    }

    private static void aFifthSpotAndAFifthLamp() {
        due.is("the ; of a fifth spot", Coasts.read(new OldLamps(), "o000000;0;0;0;0;0,l0"), -100 - 15);
        due.is("the ; of a fifth spot, at the end", Coasts.read(new OldLamps(), "o000000;0;0;0;0;"), -100 - 15);
        due.is("the , of a fifth lamp", Coasts.read(new OldLamps(), "o000000;0,l0,l0,l0,l0,l0"), -100 - 21);
        due.is("the , of a fifth lamp, at the end", Coasts.read(new OldLamps(), "o000000;0,l0,l0,l0,l0,"), -100 - 21);
        due.is("behind four of each", Coasts.read(new OldLamps(), "o000000;0;0;0;0,l0,l0,l0,l0,l0"), -100 - 27);
        due.is("a fourth of each", Coasts.read(new OldLamps(), "o000000;0;0;0;0,l0,l0,l0,l0"), 4);
    }

    private static void digitsToTheirEnds() {
        OldLamps x = new OldLamps();
        due.is("0 and 9", Coasts.read(x, "o090909;9;0,l0"), 1);
        for (int watch = 0; watch < 6; watch++) due.is("sky", x.sky(watch), watch % 2 * 9);
        due.is("the most shade", x.shade(0), 9);
        due.is("the least shade", x.shade(1), 0);
        for (char next : new char[] {'/', ':'}) {
            for (int watch = 0; watch < 6; watch++) {
                StringBuilder text = new StringBuilder("o000000;0,l0");
                text.setCharAt(1 + watch, next);
                due.is(text.toString(), Coasts.read(x, text.toString()), -101 - watch);
            }
            due.is("shade " + next, Coasts.read(x, "o000000;" + next + ",l0"), -108);
            due.is("spot " + next, Coasts.read(x, "o000000;0;0;0;0,l" + next), -117);
        }
    }

    private static void theSpotOfALampIsOneThatThereIs() {
        for (int spots = 1; spots <= 4; spots++) {
            String ahead = text(spots, 1).substring(0, 7 + 2 * spots) + ",l";
            for (int digit = 0; digit <= 9; digit++) {
                due.is(ahead + digit, Coasts.read(new OldLamps(), ahead + digit),
                    digit < spots ? 1 : -100 - ahead.length());
                String second = ahead + "0,f" + digit;
                due.is(second, Coasts.read(new OldLamps(), second), digit < spots ? 2 : -100 - ahead.length() - 3);
            }
        }
    }

    private static void theLettersOfTheKinds() {
        for (int code = 33; code < 127; code++) {
            OldLamps x = new OldLamps();
            int kind = "lmf".indexOf(code);
            due.is("letter " + (char) code, Coasts.read(x, "o000000;0," + (char) code + "0"), kind < 0 ? -110 : 1);
            due.is("kind of letter " + (char) code, x.ofLamp(0, 0), kind < 0 ? OldLamps.UNKNOWN : kind);
        }
    }

    private static void theCodesThatAreTold() {
        OldLamps x = new OldLamps();
        Coasts.fill(x, 0, 2, 111, 48, 57, 49, 50, 51, 52, 59, 53, 44, 108, 48, 44, 109, 48, 44, 102, 48);
        due.is("by codes", x.coast(0, 2, 0, 18), 3);
        int[] sky = {0, 9, 1, 2, 3, 4};
        for (int watch = 0; watch < 6; watch++) due.is("sky", x.sky(watch), sky[watch]);
        due.is("shade", x.shade(0), 5);
        for (int k = 0; k < 3; k++) due.is("kind", x.ofLamp(k, 0), k);
    }

    private static void noCodes() {
        OldLamps x = new OldLamps();
        x.sheet(0, 1, 0);
        due.is("of a row of no cell", x.coast(0, 1, 0, 0), -100);
        due.is("fault()", x.fault(), 0);
        Coasts.fill(x, 0, 1, 'o', '0');
        for (int i = 0; i <= 2; i++) due.is("none from " + i + " on", x.coast(0, 1, i, 0), -100);
    }
}
