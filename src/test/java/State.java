import java.util.Arrays;

/** An object in one state, made anew as often as it is asked for, what a test knows of it, and all that it shows. */
final class State {
    static final int NOTHING = -1;
    static final int LEFT_FAULT = 4;

    final String name;
    final int spots;
    final int lamps;
    final int moves;
    final int readings;
    /** The lane of each sheet (NOTHING: it has none), and its cells. */
    final int[] lanes;
    final int[][] cells;
    private final String text;

    private State(String name, String text, int spots, int lamps, int told, int[] lanes, int[][] cells) {
        this.name = name;
        this.text = text;
        this.spots = spots;
        this.lamps = lamps;
        this.moves = told;
        this.readings = told;
        this.lanes = lanes;
        this.cells = cells;
    }

    /** No coast, no row. */
    static State nothing() {
        return new State("nothing told", "", 0, 0, 0, new int[] {NOTHING, NOTHING, NOTHING, NOTHING}, new int[4][0]);
    }

    /** One spot, one lamp, nothing else told; a row of a text, one of a move's cells, nothing, one of no cell. */
    static State least() {
        String text = "o900000;0,l0";
        int[][] cells = {text.chars().toArray(), {0, 23, 0}, {}, {}};
        return new State("the least", text, 1, 1, 0, new int[] {0, 1, NOTHING, 2}, cells);
    }

    /** 4 spots, 4 lamps, 8 moves, 8 readings; a row of 60 cells, one of 8 moves' cells, nothing, one of no cell. */
    static State most() {
        String text = "o987654;0;1;2;3,l0,m1,f2,l3";
        int[] row = Arrays.copyOf(text.chars().toArray(), 60);
        int[] moves = new int[24];
        for (int i = 0; i < 8; i++) {
            moves[3 * i] = i % 4;
            moves[3 * i + 1] = 23 - i;
            moves[3 * i + 2] = 3 - i % 4;
        }
        return new State("the most", text, 4, 4, 8, new int[] {0, 1, NOTHING, 2}, new int[][] {row, moves, {}, {}});
    }

    /** Rows of one lane, of others, and nothing, for copies. */
    static State rows() {
        int[][] cells = {{1, 2, 3, 4, 5}, {6, 7, 8}, {}, {9, 10}};
        return new State("rows", "", 0, 0, 0, new int[] {0, 0, NOTHING, 1}, cells);
    }

    boolean isThere() {
        return lamps > 0;
    }

    boolean isNothing(int sheet) {
        return lanes[sheet] == NOTHING;
    }

    boolean isCast(int sheet, int lane) {
        return lanes[sheet] != NOTHING && lanes[sheet] != lane;
    }

    /** Whether a row has cells from i on: i is one of its places, or, where none is taken, its end. */
    boolean hasCells(int sheet, int i, long n) {
        return i >= 0 && n >= 0 && i + n <= cells[sheet].length;
    }

    OldLamps made() {
        OldLamps x = new OldLamps();
        for (int k = 0; k < 4; k++) {
            if (isNothing(k)) continue;
            x.sheet(k, lanes[k], cells[k].length);
            for (int i = 0; i < cells[k].length; i++) {
                if (cells[k][i] != 0) x.put(k, i, cells[k][i]);
            }
        }
        if (isThere()) x.coast(0, 0, 0, text.length());
        for (int day = 0; day < Math.min(4, moves); day++) x.cloud(day, day);
        for (int i = 0; i < moves; i++) {
            x.move(i % 4, 2 * i + 1, (i % 4 + 1 + i / 4) % 4);
        }
        // Readings that are so: with any other one in their place the sets would be otherwise.
        for (int i = 0; i < readings; i++) {
            x.reading(i % 4, 3 * i, x.light(i % 4, 3 * i));
        }
        x.tell(lamps - 1);
        x.see(0);
        x.sheet(0, 0, -1);
        return x;
    }

    /** All that an object shows but for its fault, by some 270 calls; it is not the same behind them. */
    static long[] seen(OldLamps x) {
        long[] seen = new long[400];
        int at = 0;
        seen[at++] = x.trace();
        for (int what = 0; what < 5; what++) seen[at++] = x.many(what);
        for (int watch = 0; watch < 6; watch++) seen[at++] = x.sky(watch);
        for (int spot = 0; spot < 4; spot++) {
            seen[at++] = x.shade(spot);
            for (int watch = 0; watch < 24; watch++) seen[at++] = x.light(spot, watch);
        }
        for (int k = 0; k < 4; k++) {
            seen[at++] = x.ofLamp(k, 0);
            seen[at++] = x.ofLamp(k, 1);
            seen[at++] = x.stood(k);
            seen[at++] = x.kinds(k);
        }
        seen[at++] = x.ages();
        for (int day = 0; day < 4; day++) seen[at++] = x.clouds(day);
        for (int k = 0; k < 4; k++) at = seenCells(x, k, seen, at);
        for (int i = 0; i < 8; i++) {
            seen[at++] = x.back(1);
            seen[at++] = x.undo(1);
        }
        for (int day = 0; day < 4; day++) seen[at++] = x.cloud(day, 0);
        seen[at++] = x.age(1);
        return Arrays.copyOf(seen, at);
    }

    private static int seenCells(OldLamps x, int k, long[] seen, int from) {
        int at = from;
        for (int lane = 0; lane < 3; lane++) {
            seen[at++] = x.cell(k, 0, lane);
            seen[at++] = x.fault();
            if (seen[at - 1] != 0) continue;
            int i = 1;
            do {
                seen[at++] = x.cell(k, i++, lane);
            } while (seen[at - 1] != OldLamps.LOST);
        }
        return at;
    }
}
