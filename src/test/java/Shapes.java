/**
 * What a TEXT is, told by its shapes: one for each number of SPOTS and of LAMPS. A FIRST FAULT stands where the longest
 * way into any of them ends.
 */
final class Shapes {
    static final int TAKEN = -1;

    private Shapes() {
    }

    /** The FIRST FAULT of codes, or TAKEN. */
    static int firstFault(int... codes) {
        int longest = 0;
        for (int spots = 1; spots <= 4; spots++) {
            for (int lamps = 1; lamps <= 4; lamps++) {
                String[] shape = shape(spots, lamps);
                int way = way(shape, codes);
                if (way == codes.length && way == shape.length) return TAKEN;
                longest = Math.max(longest, way);
            }
        }
        return longest;
    }

    static int firstFault(String text) {
        return firstFault(text.chars().toArray());
    }

    /** The signs that may stand at each place of a text. */
    private static String[] shape(int spots, int lamps) {
        String[] shape = new String[7 + 2 * spots + 3 * lamps];
        int at = 0;
        shape[at++] = "o";
        for (int watch = 0; watch < 6; watch++) shape[at++] = "0123456789";
        for (int spot = 0; spot < spots; spot++) {
            shape[at++] = ";";
            shape[at++] = "0123456789";
        }
        for (int lamp = 0; lamp < lamps; lamp++) {
            shape[at++] = ",";
            shape[at++] = "lmf";
            shape[at++] = "0123".substring(0, spots);
        }
        return shape;
    }

    private static int way(String[] shape, int[] codes) {
        int way = 0;
        while (way < codes.length && way < shape.length && shape[way].indexOf(codes[way]) >= 0) way++;
        return way;
    }
}
