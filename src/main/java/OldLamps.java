public final class OldLamps {
    public static final int UNKNOWN = -1, OUTSIDE = -2, STATE = -3, FULL = -4, NONE = -9;
    public static final long LOST = Long.MIN_VALUE;

    private static final int NULL = 1, CAST = 2, INDEX = 3, SIZE = 4;

    private static final int LAMP = 0, MIRRORED = 1, FEAST = 2, GONE = 3;

    private static final int BYTES = 0, SHORTS = 1, INTS = 2, NOTHING = -1;

    private static final int MOST_SPOTS = 4, MOST_LAMPS = 4, MOST_ENTRIES = 8;
    private static final int DAYS = 4, DAY_WATCHES = 6, WATCHES = DAYS * DAY_WATCHES;
    private static final int OVERCAST = 9, MOST_CLOUD = 9, FIRST_AGE = 6, MOST_AGE = 12;
    private static final int MOST_GIVEN = 99, MOST_FALLEN = 999, MOST_ASKED = 999;
    private static final int SHEETS = 4, MOST_CELLS = 60, MOVE_CELLS = 3;

    private final Ground ground = new Ground();
    private final Ground draft = new Ground();
    private final Entries told = new Entries();
    private final Entries tried = new Entries();
    private final Entries readings = new Entries();
    private final Watches now = new Watches();
    private final Watches then = new Watches();
    private final Search search = new Search();
    private final Sheet[] sheets = new Sheet[SHEETS];
    private int traced = 0;
    private int latestFault = 0;

    public OldLamps() {
        for (int k = 0; k < SHEETS; k++) {
            sheets[k] = new Sheet();
        }
    }

    // ---- 1 the coast

    public int coast(int sheet, int lane, int i, int n) {
        latestFault = 0;
        if (!isSheet(sheet)) return UNKNOWN;
        if (!isLane(lane)) return OUTSIDE;
        Sheet row = sheets[sheet];
        if (row.isOfAnotherLane(lane)) return faulted(CAST);
        if (row.isNothing()) return faulted(NULL);
        if (n < 0) return faulted(SIZE);
        if (!row.hasCells(i, n)) return faulted(INDEX);
        Text text = new Text(row, i, n);
        if (!text.reads(draft)) return -100 - text.at;
        ground.become(draft);
        told.count = 0;
        readings.count = 0;
        return ground.lamps;
    }

    public int sky(int watch) {
        if (!isWithin(watch, 0, DAY_WATCHES - 1)) return OUTSIDE;
        if (!ground.isThere()) return STATE;
        return ground.skies[watch];
    }

    public int shade(int spot) {
        if (!ground.hasSpot(spot)) return UNKNOWN;
        return ground.shades[spot];
    }

    public int ofLamp(int k, int what) {
        if (!ground.hasLamp(k)) return UNKNOWN;
        if (!isWithin(what, 0, 1)) return OUTSIDE;
        return what == 0 ? ground.lampKinds[k] : ground.firstSpots[k];
    }

    public int cloud(int day, int v) {
        if (!ground.isThere()) return STATE;
        if (!isDay(day) || !isWithin(v, 0, MOST_CLOUD)) return OUTSIDE;
        int before = ground.dayClouds[day];
        ground.dayClouds[day] = v;
        return before;
    }

    public int age(int v) {
        if (!isWithin(v, 1, MOST_AGE)) return OUTSIDE;
        if (!ground.isThere()) return STATE;
        int before = ground.lightAge;
        ground.lightAge = v;
        return before;
    }

    public int move(int k, int watch, int spot) {
        if (!ground.hasLamp(k) || !ground.hasSpot(spot)) return UNKNOWN;
        if (!isWatch(watch)) return OUTSIDE;
        return told.append(k, watch, spot);
    }

    public int undo(int k) {
        return told.takeBack(k);
    }

    // ---- 2 watches

    public int where(int k, int watch) {
        if (!ground.hasLamp(k)) return UNKNOWN;
        if (!isWatch(watch)) return OUTSIDE;
        now.reckon(ground, told);
        return now.places[Watches.at(watch, k)];
    }

    public int gives(int k, int watch) {
        if (!ground.hasLamp(k)) return UNKNOWN;
        if (!isWatch(watch)) return OUTSIDE;
        now.reckon(ground, told);
        return now.given[Watches.at(watch, k)];
    }

    public int falls(int k, int watch) {
        if (!ground.hasLamp(k)) return UNKNOWN;
        if (!isWatch(watch)) return OUTSIDE;
        now.reckon(ground, told);
        return now.fallen[Watches.at(watch, k)];
    }

    public int light(int spot, int watch) {
        if (!ground.hasSpot(spot)) return UNKNOWN;
        if (!isWatch(watch)) return OUTSIDE;
        now.reckon(ground, told);
        return now.lightOf(spot, watch);
    }

    public int dark(int spot, int watch, int v) {
        if (!ground.hasSpot(spot)) return UNKNOWN;
        if (!isWatch(watch) || !isWithin(v, 0, MOST_ASKED)) return OUTSIDE;
        now.reckon(ground, told);
        for (int w = watch; w < WATCHES; w++) {
            if (now.lightOf(spot, w) < v) return w;
        }
        return NONE;
    }

    // ---- 3 moves, worths

    public int set(int spot, int watch, int what) {
        if (!ground.hasSpot(spot)) return UNKNOWN;
        if (!isWatch(watch) || !isWithin(what, 0, 1)) return OUTSIDE;
        search.run(ground, told, new MostLight(spot, watch));
        return what == 0 ? search.bestMove : search.bestScore;
    }

    public int show(int spot, int v, int what) {
        if (!ground.hasSpot(spot)) return UNKNOWN;
        if (!isWithin(v, 0, MOST_ASKED) || !isWithin(what, 0, 1)) return OUTSIDE;
        search.run(ground, told, new LeastDark(spot, v));
        return what == 0 ? search.bestMove : -search.bestScore;
    }

    public int moves(int spot, int watch, int sheet, int lane, int i, int n) {
        latestFault = 0;
        if (!ground.hasSpot(spot)) return UNKNOWN;
        if (!isWatch(watch)) return OUTSIDE;
        if (!isSheet(sheet)) return UNKNOWN;
        if (!isLane(lane) || !isWithin(n, 0, MOST_ENTRIES)) return OUTSIDE;
        Sheet row = sheets[sheet];
        if (row.isOfAnotherLane(lane)) return faulted(CAST);
        if (row.isNothing()) return faulted(NULL);
        if (!row.hasCells(i, n * MOVE_CELLS)) return faulted(INDEX);
        int refusal = readTried(row, i, n);
        if (refusal != 0) return refusal;
        now.reckon(ground, tried);
        return now.lightOf(spot, watch);
    }

    public int worth(int k) {
        if (!ground.hasLamp(k)) return UNKNOWN;
        draft.become(ground);
        draft.lampKinds[k] = GONE;
        now.reckon(ground, told);
        then.reckon(draft, told);
        return now.allLight(ground.spots) - then.allLight(ground.spots);
    }

    // ---- 4 how light spots were

    public int reading(int spot, int watch, int v) {
        if (!ground.hasSpot(spot)) return UNKNOWN;
        if (!isWatch(watch) || !isWithin(v, 0, MOST_ASKED)) return OUTSIDE;
        return readings.append(spot, watch, v);
    }

    public int back(int k) {
        return readings.takeBack(k);
    }

    public int stood(int k) {
        if (!ground.hasLamp(k)) return UNKNOWN;
        draft.become(ground);
        int found = 0;
        for (int spot = 0; spot < ground.spots; spot++) {
            draft.firstSpots[k] = spot;
            found |= bitIfReadingsHold(spot);
        }
        return found;
    }

    public int kinds(int k) {
        if (!ground.hasLamp(k)) return UNKNOWN;
        draft.become(ground);
        int found = 0;
        for (int kind = LAMP; kind <= FEAST; kind++) {
            draft.lampKinds[k] = kind;
            found |= bitIfReadingsHold(kind);
        }
        return found;
    }

    public int ages() {
        if (!ground.isThere()) return STATE;
        draft.become(ground);
        int found = 0;
        for (int watches = 1; watches <= MOST_AGE; watches++) {
            draft.lightAge = watches;
            found |= bitIfReadingsHold(watches);
        }
        return found;
    }

    public int clouds(int day) {
        if (!isDay(day)) return OUTSIDE;
        if (!ground.isThere()) return STATE;
        draft.become(ground);
        int found = 0;
        for (int v = 0; v <= MOST_CLOUD; v++) {
            draft.dayClouds[day] = v;
            found |= bitIfReadingsHold(v);
        }
        return found;
    }

    public long odds(int spot, int watch, int v, int which) {
        if (!ground.hasSpot(spot)) return LOST;
        if (!isWatch(watch) || !isWithin(v, 0, MOST_ASKED) || !isWithin(which, 0, 1)) return LOST;
        int cases = 1 << DAYS;
        int lightEnough = countCases(spot, watch, v, cases);
        int common = cases;
        for (int halving = 0; halving < DAYS && lightEnough % common != 0; halving++) {
            common /= 2;
        }
        return which == 0 ? lightEnough / common : cases / common;
    }

    // ---- 5 sheets, parts

    public int sheet(int k, int lane, int n) {
        latestFault = 0;
        if (!isSheet(k)) return UNKNOWN;
        if (!isLane(lane) || n > MOST_CELLS) return OUTSIDE;
        if (n < 0) return faulted(SIZE);
        sheets[k].makeRow(lane, n);
        return 1;
    }

    public int lose(int k) {
        if (!isSheet(k)) return UNKNOWN;
        if (sheets[k].isNothing()) return 0;
        sheets[k].makeNothing();
        return 1;
    }

    public int put(int k, int i, int v) {
        latestFault = 0;
        if (!isSheet(k)) return UNKNOWN;
        Sheet row = sheets[k];
        if (row.isNothing()) return faulted(NULL);
        if (!row.hasCells(i, 1)) return faulted(INDEX);
        row.cells[i] = row.cutToLane(v);
        return 1;
    }

    public long cell(int k, int i, int lane) {
        latestFault = 0;
        if (!isSheet(k) || !isLane(lane)) return LOST;
        Sheet row = sheets[k];
        if (row.isOfAnotherLane(lane)) return lostTo(CAST);
        if (row.isNothing()) return lostTo(NULL);
        if (!row.hasCells(i, 1)) return lostTo(INDEX);
        return row.cells[i];
    }

    public int copy(int k, int i, int other, int j, int n) {
        latestFault = 0;
        if (!isSheet(k) || !isSheet(other)) return UNKNOWN;
        Sheet from = sheets[k];
        Sheet to = sheets[other];
        if (from.isNothing() || to.isNothing()) return faulted(NULL);
        if (from.isOfAnotherLane(to.rowLane)) return faulted(CAST);
        if (!from.hasCells(i, n) || !to.hasCells(j, n)) return faulted(INDEX);
        System.arraycopy(from.cells, i, to.cells, j, n);
        return n;
    }

    public int tell(int k) {
        if (!ground.hasLamp(k)) return UNKNOWN;
        int kind = ground.lampKinds[k];
        if (kind == FEAST) return tellAsFeast(k);
        return kind == MIRRORED ? tellAsMirrored(k) : tellAsLamp(k);
    }

    public int see(int k) {
        if (!ground.hasLamp(k)) return UNKNOWN;
        return ground.lampKinds[k] == FEAST ? seeAsFeast() : seeAsLent(k);
    }

    public int as(int k, int kind) {
        latestFault = 0;
        if (!ground.hasLamp(k)) return UNKNOWN;
        if (!isWithin(kind, LAMP, FEAST)) return OUTSIDE;
        // Each kind is one of all the kinds below it.
        if (kind > ground.lampKinds[k]) return faulted(CAST);
        return 1;
    }

    public int trace() {
        return traced;
    }

    public int fault() {
        return latestFault;
    }

    public int many(int what) {
        switch (what) {
            case 0: return ground.lamps;
            case 1: return ground.spots;
            case 2: return told.count;
            case 3: return readings.count;
            case 4: return ground.lightAge;
            default: return OUTSIDE;
        }
    }

    // ---- what the calls share

    private static boolean isWithin(int v, int least, int most) {
        return v >= least && v <= most;
    }

    private static boolean isWatch(int watch) {
        return isWithin(watch, 0, WATCHES - 1);
    }

    private static boolean isDay(int day) {
        return isWithin(day, 0, DAYS - 1);
    }

    private static boolean isSheet(int k) {
        return isWithin(k, 0, SHEETS - 1);
    }

    private static boolean isLane(int lane) {
        return isWithin(lane, BYTES, INTS);
    }

    private int faulted(int which) {
        latestFault = which;
        return -10 - which;
    }

    private long lostTo(int which) {
        latestFault = which;
        return LOST;
    }

    /** Fills the tried moves from cells that are there: 0, or the refusal of the first number that is wrong. */
    private int readTried(Sheet row, int i, int n) {
        tried.count = 0;
        for (int number = 0; number < n; number++) {
            int first = i + number * MOVE_CELLS;
            int lamp = row.cells[first];
            int watch = row.cells[first + 1];
            int spot = row.cells[first + 2];
            if (!ground.hasLamp(lamp)) return UNKNOWN;
            if (!isWatch(watch)) return OUTSIDE;
            if (!ground.hasSpot(spot)) return UNKNOWN;
            tried.append(lamp, watch, spot);
        }
        return 0;
    }

    private int bitIfReadingsHold(int number) {
        then.reckon(draft, told);
        for (int i = 0; i < readings.count; i++) {
            if (then.lightOf(readings.whos[i], readings.watches[i]) != readings.values[i]) return 0;
        }
        return 1 << number;
    }

    private int countCases(int spot, int watch, int v, int cases) {
        draft.become(ground);
        int lightEnough = 0;
        for (int overcastDays = 0; overcastDays < cases; overcastDays++) {
            for (int day = 0; day < DAYS; day++) {
                draft.dayClouds[day] = (overcastDays >> day & 1) == 1 ? OVERCAST : 0;
            }
            then.reckon(draft, told);
            if (then.lightOf(spot, watch) >= v) lightEnough++;
        }
        return lightEnough;
    }

    private void leave(int number) {
        traced = 31 * traced + number;
    }

    private int tellAsLamp(int k) {
        leave(1);
        return ground.firstSpots[k];
    }

    private int tellAsMirrored(int k) {
        leave(2);
        return tellAsLamp(k) + 100;
    }

    private int tellAsFeast(int k) {
        leave(3);
        int asMirrored = tellAsMirrored(k);
        return asMirrored + tellAsLamp(k);
    }

    private int seeAsLent(int k) {
        leave(4);
        return k;
    }

    private int seeAsFeast() {
        leave(5);
        return 60;
    }

    /** A row of numbers of a lane, or nothing: the cells behind its length are kept for a longer row. */
    static final class Sheet {
        final int[] cells = new int[MOST_CELLS];
        int length = 0;
        int rowLane = NOTHING;

        boolean isNothing() {
            return rowLane == NOTHING;
        }

        boolean isOfAnotherLane(int lane) {
            return rowLane != NOTHING && rowLane != lane;
        }

        boolean hasCells(int from, int n) {
            return from >= 0 && from <= length && n >= 0 && n <= length - from;
        }

        int cutToLane(int v) {
            if (rowLane == BYTES) return (byte) v;
            return rowLane == SHORTS ? (short) v : v;
        }

        void makeRow(int lane, int n) {
            rowLane = lane;
            length = n;
            for (int i = 0; i < n; i++) {
                cells[i] = 0;
            }
        }

        void makeNothing() {
            rowLane = NOTHING;
            length = 0;
        }
    }

    /** A coast as it is, or as it were if one thing were otherwise; without lamps there is none. */
    static final class Ground {
        int spots = 0;
        int lamps = 0;
        int lightAge = 0;
        final int[] skies = new int[DAY_WATCHES];
        final int[] shades = new int[MOST_SPOTS];
        final int[] lampKinds = new int[MOST_LAMPS];
        final int[] firstSpots = new int[MOST_LAMPS];
        final int[] dayClouds = new int[DAYS];

        boolean isThere() {
            return lamps > 0;
        }

        boolean hasSpot(int spot) {
            return spot >= 0 && spot < spots;
        }

        boolean hasLamp(int k) {
            return k >= 0 && k < lamps;
        }

        void makeNew() {
            spots = 0;
            lamps = 0;
            lightAge = FIRST_AGE;
            for (int day = 0; day < DAYS; day++) {
                dayClouds[day] = 0;
            }
        }

        void become(Ground other) {
            spots = other.spots;
            lamps = other.lamps;
            lightAge = other.lightAge;
            System.arraycopy(other.skies, 0, skies, 0, DAY_WATCHES);
            System.arraycopy(other.shades, 0, shades, 0, MOST_SPOTS);
            System.arraycopy(other.lampKinds, 0, lampKinds, 0, MOST_LAMPS);
            System.arraycopy(other.firstSpots, 0, firstSpots, 0, MOST_LAMPS);
            System.arraycopy(other.dayClouds, 0, dayClouds, 0, DAYS);
        }

        int daylight(int spot, int watch) {
            return Math.max(0, skies[watch % DAY_WATCHES] - shades[spot] - dayClouds[watch / DAY_WATCHES]);
        }
    }

    /** A text of cells, read code by code: where a reading stops is the place of the first fault. */
    static final class Text {
        final Sheet row;
        final int start;
        final int length;
        int at = 0;

        Text(Sheet row, int start, int length) {
            this.row = row;
            this.start = start;
            this.length = length;
        }

        boolean reads(Ground into) {
            into.makeNew();
            return readsSky(into) && readsSpots(into) && readsLamps(into) && at == length;
        }

        private boolean readsSky(Ground into) {
            if (!takes('o')) return false;
            for (int watch = 0; watch < DAY_WATCHES; watch++) {
                int digit = takeDigit(10);
                if (digit < 0) return false;
                into.skies[watch] = digit;
            }
            return true;
        }

        private boolean readsSpots(Ground into) {
            for (int spot = 0; spot < MOST_SPOTS && takes(';'); spot++) {
                int digit = takeDigit(10);
                if (digit < 0) return false;
                into.shades[spot] = digit;
                into.spots = spot + 1;
            }
            return into.spots > 0;
        }

        private boolean readsLamps(Ground into) {
            for (int k = 0; k < MOST_LAMPS && takes(','); k++) {
                int kind = takeKind();
                if (kind < 0) return false;
                int spot = takeDigit(into.spots);
                if (spot < 0) return false;
                into.lampKinds[k] = kind;
                into.firstSpots[k] = spot;
                into.lamps = k + 1;
            }
            return into.lamps > 0;
        }

        private boolean takes(int code) {
            if (at >= length || row.cells[start + at] != code) return false;
            at++;
            return true;
        }

        private int takeDigit(int below) {
            if (at >= length) return NONE;
            int digit = row.cells[start + at] - '0';
            if (digit < 0 || digit >= below) return NONE;
            at++;
            return digit;
        }

        private int takeKind() {
            if (takes('l')) return LAMP;
            if (takes('m')) return MIRRORED;
            return takes('f') ? FEAST : NONE;
        }
    }

    /**
     * Up to eight of a who, a watch and a value, in the order in which they were told:
     * MOVES (a lamp comes in a watch to a spot) and READINGS (a spot had in a watch so much light).
     */
    static final class Entries {
        int count = 0;
        final int[] whos = new int[MOST_ENTRIES];
        final int[] watches = new int[MOST_ENTRIES];
        final int[] values = new int[MOST_ENTRIES];

        int append(int who, int watch, int value) {
            if (count >= MOST_ENTRIES) return FULL;
            whos[count] = who;
            watches[count] = watch;
            values[count] = value;
            count++;
            return count - 1;
        }

        int takeBack(int k) {
            if (k < 0 || k > count) return OUTSIDE;
            count -= k;
            return count;
        }

        /** The first watch behind one that has an entry of a who; how many watches there are, if none has. */
        int nextWatch(int who, int watch) {
            int next = WATCHES;
            for (int i = 0; i < count; i++) {
                if (whos[i] == who && watches[i] > watch) next = Math.min(next, watches[i]);
            }
            return next;
        }
    }

    /** What there is watch by watch, of each lamp (places, given, fallen) and of each spot (days, lit). */
    static final class Watches {
        private static final int WIDTH = 4;
        final int[] places = new int[WATCHES * WIDTH];
        final int[] given = new int[WATCHES * WIDTH];
        final int[] fallen = new int[WATCHES * WIDTH];
        final int[] days = new int[WATCHES * WIDTH];
        final int[] lit = new int[WATCHES * WIDTH];

        static int at(int watch, int number) {
            return watch * WIDTH + number;
        }

        int lightOf(int spot, int watch) {
            return lit[at(watch, spot)];
        }

        int allLight(int spots) {
            int all = 0;
            for (int watch = 0; watch < WATCHES; watch++) {
                for (int spot = 0; spot < spots; spot++) {
                    all += lit[at(watch, spot)];
                }
            }
            return all;
        }

        int countBelow(int spot, int v) {
            int below = 0;
            for (int watch = 0; watch < WATCHES; watch++) {
                if (lit[at(watch, spot)] < v) below++;
            }
            return below;
        }

        void reckon(Ground ground, Entries moves) {
            for (int watch = 0; watch < WATCHES; watch++) {
                placeLamps(ground, moves, watch);
                for (int spot = 0; spot < ground.spots; spot++) {
                    days[at(watch, spot)] = ground.daylight(spot, watch);
                }
            }
            reckonLight(ground, 0, WATCHES - 1);
        }

        void become(Watches other) {
            System.arraycopy(other.places, 0, places, 0, WATCHES * WIDTH);
            System.arraycopy(other.given, 0, given, 0, WATCHES * WIDTH);
            System.arraycopy(other.fallen, 0, fallen, 0, WATCHES * WIDTH);
            System.arraycopy(other.days, 0, days, 0, WATCHES * WIDTH);
            System.arraycopy(other.lit, 0, lit, 0, WATCHES * WIDTH);
        }

        void placeAt(int lamp, int spot, int from, int until) {
            for (int watch = from; watch < until; watch++) {
                places[at(watch, lamp)] = spot;
            }
        }

        /** Light is given by what fell earlier alone: so what is ahead of the first watch stands, and is read. */
        void reckonLight(Ground ground, int first, int last) {
            for (int watch = first; watch <= last; watch++) {
                int row = at(watch, 0);
                int source = watch - ground.lightAge;
                System.arraycopy(days, row, lit, row, WIDTH);
                for (int k = 0; k < ground.lamps; k++) {
                    int light = source < 0 ? 0 : glow(ground.lampKinds[k], fallen[at(source, k)]);
                    given[row + k] = light;
                    lit[row + places[row + k]] += light;
                }
                for (int k = 0; k < ground.lamps; k++) {
                    fallen[row + k] = Math.min(MOST_FALLEN, lit[row + places[row + k]] - given[row + k]);
                }
            }
        }

        private void placeLamps(Ground ground, Entries moves, int watch) {
            for (int k = 0; k < ground.lamps; k++) {
                places[at(watch, k)] = watch == 0 ? ground.firstSpots[k] : places[at(watch - 1, k)];
            }
            for (int i = 0; i < moves.count; i++) {
                if (moves.watches[i] == watch) places[at(watch, moves.whos[i])] = moves.values[i];
            }
        }

        private static int glow(int kind, int fell) {
            if (fell == 0 || kind == GONE) return 0;
            if (kind == LAMP) return Math.min(MOST_GIVEN, fell);
            int asMirrored = fell + 1;
            return Math.min(MOST_GIVEN, kind == FEAST ? 2 * asMirrored : asMirrored);
        }
    }

    /** What one move more is looked for: the higher the score, the better. */
    abstract static class Aim {
        abstract int score(Watches table);

        abstract int lastWatch();
    }

    static final class MostLight extends Aim {
        final int spot;
        final int watch;

        MostLight(int spot, int watch) {
            this.spot = spot;
            this.watch = watch;
        }

        @Override
        int score(Watches table) {
            return table.lightOf(spot, watch);
        }

        @Override
        int lastWatch() {
            return watch;
        }
    }

    static final class LeastDark extends Aim {
        final int spot;
        final int below;

        LeastDark(int spot, int below) {
            this.spot = spot;
            this.below = below;
        }

        @Override
        int score(Watches table) {
            return -table.countBelow(spot, below);
        }

        @Override
        int lastWatch() {
            return WATCHES - 1;
        }
    }

    /** Tries each one move more behind the told ones, in the order in which of several the first one counts. */
    static final class Search {
        private final Watches now = new Watches();
        private final Watches then = new Watches();
        int bestMove = NONE;
        int bestScore = 0;

        void run(Ground ground, Entries told, Aim aim) {
            now.reckon(ground, told);
            bestMove = NONE;
            bestScore = aim.score(now);
            for (int lamp = 0; lamp < ground.lamps; lamp++) {
                for (int watch = 0; watch <= aim.lastWatch(); watch++) {
                    tryAllSpots(ground, aim, lamp, watch, told.nextWatch(lamp, watch));
                }
            }
        }

        private void tryAllSpots(Ground ground, Aim aim, int lamp, int watch, int until) {
            int place = now.places[Watches.at(watch, lamp)];
            for (int spot = 0; spot < ground.spots; spot++) {
                // Where it stands already it stands until its next move: nothing would change.
                if (spot == place) continue;
                then.become(now);
                then.placeAt(lamp, spot, watch, until);
                then.reckonLight(ground, watch, aim.lastWatch());
                int score = aim.score(then);
                if (score > bestScore) {
                    bestScore = score;
                    bestMove = 1000 * lamp + 10 * watch + spot;
                }
            }
        }
    }
}
