/** Puts texts and numbers on sheets, as the tests need them. */
final class Coasts {
    static final int TEXT_SHEET = 3;

    private Coasts() {
    }

    /** A new object with the coast of a text. */
    static OldLamps of(String text) {
        OldLamps x = new OldLamps();
        if (read(x, text) < 1) throw new IllegalStateException("no coast: " + text);
        return x;
    }

    static int read(OldLamps x, String text) {
        write(x, TEXT_SHEET, text);
        return x.coast(TEXT_SHEET, 0, 0, text.length());
    }

    static void write(OldLamps x, int sheet, String text) {
        x.sheet(sheet, 0, text.length());
        for (int i = 0; i < text.length(); i++) {
            x.put(sheet, i, text.charAt(i));
        }
    }

    static void fill(OldLamps x, int sheet, int lane, int... numbers) {
        x.sheet(sheet, lane, numbers.length);
        for (int i = 0; i < numbers.length; i++) {
            x.put(sheet, i, numbers[i]);
        }
    }
}
