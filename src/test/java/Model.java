import java.util.ArrayList;
import java.util.List;

/** The document once more, in the plainest form: every answer is reckoned from the told things, by what they say. */
final class Model {
    private static final int UNKNOWN = -1, OUTSIDE = -2, STATE = -3, FULL = -4, NONE = -9;

    record Entry(int who, int watch, int value) {
    }

    record Sheet(int lane, int[] cells) {
    }

    /** All that the light depends on; lamps in the order of their numbers, a null kind is no lamp. */
    record World(int[] sky, int[] shades, Integer[] kinds, int[] firsts, int[] clouds, int age, List<Entry> moves) {
        World with(Integer[] otherKinds, int[] otherFirsts, int[] otherClouds, int otherAge, List<Entry> otherMoves) {
            return new World(sky, shades, otherKinds, otherFirsts, otherClouds, otherAge, otherMoves);
        }

        World withMoves(List<Entry> other) {
            return with(kinds, firsts, clouds, age, other);
        }

        World withFirst(int k, int spot) {
            int[] other = firsts.clone();
            other[k] = spot;
            return with(kinds, other, clouds, age, moves);
        }

        World withKind(int k, Integer kind) {
            Integer[] other = kinds.clone();
            other[k] = kind;
            return with(other, firsts, clouds, age, moves);
        }

        World withCloud(int day, int v) {
            int[] other = clouds.clone();
            other[day] = v;
            return with(kinds, firsts, other, age, moves);
        }

        World withAge(int v) {
            return with(kinds, firsts, clouds, v, moves);
        }

        int where(int k, int watch) {
            for (int from = watch; from >= 0; from--) {
                for (int i = moves.size() - 1; i >= 0; i--) {
                    Entry move = moves.get(i);
                    if (move.who == k && move.watch == from) return move.value;
                }
            }
            return firsts[k];
        }
    }

    /** Light of a world, each number reckoned once, from those ahead of it. */
    static final class Light {
        private final World world;
        private final Integer[][] gives;

        Light(World world) {
            this.world = world;
            this.gives = new Integer[world.kinds.length][24];
        }

        int byDay(int spot, int watch) {
            int left = world.sky[watch % 6] - world.shades[spot] - world.clouds[watch / 6];
            return left < 0 ? 0 : left;
        }

        int gives(int k, int watch) {
            if (gives[k][watch] == null) gives[k][watch] = reckonGives(k, watch);
            return gives[k][watch];
        }

        private int reckonGives(int k, int watch) {
            if (world.kinds[k] == null || watch - world.age < 0) return 0;
            int fell = falls(k, watch - world.age);
            int mirrored = fell == 0 ? 0 : fell + 1;
            int given = switch (world.kinds[k]) {
                case 0 -> fell;
                case 1 -> mirrored;
                default -> mirrored * 2;
            };
            return given > 99 ? 99 : given;
        }

        int falls(int k, int watch) {
            int spot = world.where(k, watch);
            int all = byDay(spot, watch);
            for (int other = 0; other < world.kinds.length; other++) {
                if (other != k && world.where(other, watch) == spot) all += gives(other, watch);
            }
            return all > 999 ? 999 : all;
        }

        int of(int spot, int watch) {
            int all = byDay(spot, watch);
            for (int k = 0; k < world.kinds.length; k++) {
                if (world.where(k, watch) == spot) all += gives(k, watch);
            }
            return all;
        }

        int below(int spot, int v) {
            int many = 0;
            for (int watch = 0; watch < 24; watch++) if (of(spot, watch) < v) many++;
            return many;
        }

        int all() {
            int sum = 0;
            for (int spot = 0; spot < world.shades.length; spot++) {
                for (int watch = 0; watch < 24; watch++) sum += of(spot, watch);
            }
            return sum;
        }
    }

    private World world = null;
    private List<Entry> readings = new ArrayList<>();
    private final Sheet[] sheets = new Sheet[4];
    private int trace = 0;
    private int fault = 0;

    private boolean spot(int s) {
        return world != null && s >= 0 && s < world.shades.length;
    }

    private boolean lamp(int k) {
        return world != null && k >= 0 && k < world.kinds.length;
    }

    private static boolean in(int v, int least, int most) {
        return v >= least && v <= most;
    }

    private static boolean watch(int w) {
        return in(w, 0, 23);
    }

    private int fault(int which) {
        fault = which;
        return -10 - which;
    }

    private Light light() {
        return new Light(world);
    }

    private static boolean covers(Sheet s, int i, int n) {
        return i >= 0 && n >= 0 && (long) i + n <= s.cells.length;
    }

    int coast(int k, int lane, int i, int n) {
        fault = 0;
        if (!in(k, 0, 3)) return UNKNOWN;
        if (!in(lane, 0, 2)) return OUTSIDE;
        if (sheets[k] != null && sheets[k].lane != lane) return fault(2);
        if (sheets[k] == null) return fault(1);
        if (n < 0) return fault(4);
        if (!covers(sheets[k], i, n)) return fault(3);
        StringBuilder text = new StringBuilder();
        for (int j = 0; j < n; j++) {
            int code = sheets[k].cells[i + j];
            text.append(code > 0 && code < 128 ? (char) code : '?');
        }
        int good = goodCodes(text.toString());
        if (good < n || !isText(text.toString())) return -100 - good;
        take(text.toString());
        return world.kinds.length;
    }

    private static boolean isText(String text) {
        if (!text.matches("o[0-9]{6}(;[0-9]){1,4}(,[lmf][0-9]){1,4}")) return false;
        String[] parts = text.split(",");
        int spots = (parts[0].length() - 7) / 2;
        for (int k = 1; k < parts.length; k++) if (parts[k].charAt(1) - '0' >= spots) return false;
        return true;
    }

    /** The most codes from the first on with which some text begins: tried by what can stand behind them. */
    private static int goodCodes(String text) {
        int good = 0;
        while (good < text.length() && goesOn(text.substring(0, good + 1))) good++;
        return good;
    }

    private static boolean goesOn(String begin) {
        String[] rests = {"", "0", "000000;0,l0", "00000;0,l0", "0000;0,l0", "000;0,l0", "00;0,l0", "0;0,l0", ";0,l0",
            "0,l0", ",l0", "l0"};
        for (String rest : rests) if (isText(begin + rest)) return true;
        return false;
    }

    private void take(String text) {
        String[] parts = text.split(",");
        int[] sky = new int[6];
        for (int w = 0; w < 6; w++) sky[w] = parts[0].charAt(1 + w) - '0';
        String[] spots = parts[0].split(";");
        int[] shades = new int[spots.length - 1];
        for (int s = 0; s < shades.length; s++) shades[s] = spots[s + 1].charAt(0) - '0';
        Integer[] kinds = new Integer[parts.length - 1];
        int[] firsts = new int[kinds.length];
        for (int k = 0; k < kinds.length; k++) {
            kinds[k] = "lmf".indexOf(parts[k + 1].charAt(0));
            firsts[k] = parts[k + 1].charAt(1) - '0';
        }
        world = new World(sky, shades, kinds, firsts, new int[4], 6, new ArrayList<>());
        readings = new ArrayList<>();
    }

    int sky(int w) {
        if (!in(w, 0, 5)) return OUTSIDE;
        return world == null ? STATE : world.sky[w];
    }

    int shade(int s) {
        return spot(s) ? world.shades[s] : UNKNOWN;
    }

    int ofLamp(int k, int what) {
        if (!lamp(k)) return UNKNOWN;
        if (!in(what, 0, 1)) return OUTSIDE;
        return what == 0 ? world.kinds[k] : world.firsts[k];
    }

    int cloud(int day, int v) {
        if (world == null) return STATE;
        if (!in(day, 0, 3) || !in(v, 0, 9)) return OUTSIDE;
        int was = world.clouds[day];
        world = world.withCloud(day, v);
        return was;
    }

    int age(int v) {
        if (!in(v, 1, 12)) return OUTSIDE;
        if (world == null) return STATE;
        int was = world.age;
        world = world.withAge(v);
        return was;
    }

    int move(int k, int w, int s) {
        if (!lamp(k) || !spot(s)) return UNKNOWN;
        if (!watch(w)) return OUTSIDE;
        if (world.moves.size() == 8) return FULL;
        world = world.withMoves(more(world.moves, new Entry(k, w, s)));
        return world.moves.size() - 1;
    }

    private static List<Entry> more(List<Entry> entries, Entry one) {
        List<Entry> all = new ArrayList<>(entries);
        all.add(one);
        return all;
    }

    int undo(int k) {
        int many = many(2);
        if (!in(k, 0, many)) return OUTSIDE;
        if (world != null) world = world.withMoves(world.moves.subList(0, many - k));
        return many - k;
    }

    int where(int k, int w) {
        if (!lamp(k)) return UNKNOWN;
        return watch(w) ? world.where(k, w) : OUTSIDE;
    }

    int gives(int k, int w) {
        if (!lamp(k)) return UNKNOWN;
        return watch(w) ? light().gives(k, w) : OUTSIDE;
    }

    int falls(int k, int w) {
        if (!lamp(k)) return UNKNOWN;
        return watch(w) ? light().falls(k, w) : OUTSIDE;
    }

    int light(int s, int w) {
        if (!spot(s)) return UNKNOWN;
        return watch(w) ? light().of(s, w) : OUTSIDE;
    }

    int dark(int s, int w, int v) {
        if (!spot(s)) return UNKNOWN;
        if (!watch(w) || !in(v, 0, 999)) return OUTSIDE;
        Light light = light();
        for (int from = w; from < 24; from++) if (light.of(s, from) < v) return from;
        return NONE;
    }

    int set(int s, int w, int what) {
        if (!spot(s)) return UNKNOWN;
        if (!watch(w) || !in(what, 0, 1)) return OUTSIDE;
        int best = light().of(s, w);
        int by = NONE;
        for (Entry one : allMoves()) {
            int then = new Light(world.withMoves(more(world.moves, one))).of(s, w);
            if (then > best) {
                best = then;
                by = number(one);
            }
        }
        return what == 0 ? by : best;
    }

    int show(int s, int v, int what) {
        if (!spot(s)) return UNKNOWN;
        if (!in(v, 0, 999) || !in(what, 0, 1)) return OUTSIDE;
        int best = light().below(s, v);
        int by = NONE;
        for (Entry one : allMoves()) {
            int then = new Light(world.withMoves(more(world.moves, one))).below(s, v);
            if (then < best) {
                best = then;
                by = number(one);
            }
        }
        return what == 0 ? by : best;
    }

    private List<Entry> allMoves() {
        List<Entry> all = new ArrayList<>();
        for (int k = 0; k < world.kinds.length; k++) {
            for (int w = 0; w < 24; w++) {
                for (int s = 0; s < world.shades.length; s++) all.add(new Entry(k, w, s));
            }
        }
        return all;
    }

    private static int number(Entry move) {
        return 1000 * move.who + 10 * move.watch + move.value;
    }

    int moves(int s, int w, int sheet, int lane, int i, int n) {
        fault = 0;
        if (!spot(s)) return UNKNOWN;
        if (!watch(w)) return OUTSIDE;
        if (!in(sheet, 0, 3)) return UNKNOWN;
        if (!in(lane, 0, 2) || !in(n, 0, 8)) return OUTSIDE;
        if (sheets[sheet] != null && sheets[sheet].lane != lane) return fault(2);
        if (sheets[sheet] == null) return fault(1);
        if (!covers(sheets[sheet], i, 3 * n)) return fault(3);
        List<Entry> told = new ArrayList<>();
        for (int j = i; j < i + 3 * n; j += 3) {
            int[] cells = sheets[sheet].cells;
            if (!lamp(cells[j])) return UNKNOWN;
            if (!watch(cells[j + 1])) return OUTSIDE;
            if (!spot(cells[j + 2])) return UNKNOWN;
            told.add(new Entry(cells[j], cells[j + 1], cells[j + 2]));
        }
        return new Light(world.withMoves(told)).of(s, w);
    }

    int worth(int k) {
        if (!lamp(k)) return UNKNOWN;
        return light().all() - new Light(world.withKind(k, null)).all();
    }

    int reading(int s, int w, int v) {
        if (!spot(s)) return UNKNOWN;
        if (!watch(w) || !in(v, 0, 999)) return OUTSIDE;
        if (readings.size() == 8) return FULL;
        readings.add(new Entry(s, w, v));
        return readings.size() - 1;
    }

    int back(int k) {
        if (!in(k, 0, readings.size())) return OUTSIDE;
        readings = new ArrayList<>(readings.subList(0, readings.size() - k));
        return readings.size();
    }

    private boolean so(World other) {
        Light light = new Light(other);
        return readings.stream().allMatch(r -> light.of(r.who, r.watch) == r.value);
    }

    int stood(int k) {
        if (!lamp(k)) return UNKNOWN;
        int bits = 0;
        for (int s = 0; s < world.shades.length; s++) if (so(world.withFirst(k, s))) bits += 1 << s;
        return bits;
    }

    int kinds(int k) {
        if (!lamp(k)) return UNKNOWN;
        int bits = 0;
        for (int kind = 0; kind < 3; kind++) if (so(world.withKind(k, kind))) bits += 1 << kind;
        return bits;
    }

    int ages() {
        if (world == null) return STATE;
        int bits = 0;
        for (int v = 1; v <= 12; v++) if (so(world.withAge(v))) bits += 1 << v;
        return bits;
    }

    int clouds(int day) {
        if (!in(day, 0, 3)) return OUTSIDE;
        if (world == null) return STATE;
        int bits = 0;
        for (int v = 0; v <= 9; v++) if (so(world.withCloud(day, v))) bits += 1 << v;
        return bits;
    }

    long odds(int s, int w, int v, int which) {
        if (!spot(s) || !watch(w) || !in(v, 0, 999) || !in(which, 0, 1)) return Long.MIN_VALUE;
        int upper = 0;
        int lower = 0;
        for (int a = 0; a < 10; a += 9) {
            for (int b = 0; b < 10; b += 9) {
                for (int c = 0; c < 10; c += 9) {
                    for (int d = 0; d < 10; d += 9) {
                        World other = world.withCloud(0, a).withCloud(1, b).withCloud(2, c).withCloud(3, d);
                        lower++;
                        if (new Light(other).of(s, w) >= v) upper++;
                    }
                }
            }
        }
        for (int by = 16; by > 1; by--) {
            if (upper % by == 0 && lower % by == 0) {
                upper /= by;
                lower /= by;
            }
        }
        return which == 0 ? upper : lower;
    }

    int sheet(int k, int lane, int n) {
        fault = 0;
        if (!in(k, 0, 3)) return UNKNOWN;
        if (!in(lane, 0, 2) || n > 60) return OUTSIDE;
        if (n < 0) return fault(4);
        sheets[k] = new Sheet(lane, new int[n]);
        return 1;
    }

    int lose(int k) {
        if (!in(k, 0, 3)) return UNKNOWN;
        int had = sheets[k] == null ? 0 : 1;
        sheets[k] = null;
        return had;
    }

    int put(int k, int i, int v) {
        fault = 0;
        if (!in(k, 0, 3)) return UNKNOWN;
        if (sheets[k] == null) return fault(1);
        if (!covers(sheets[k], i, 1)) return fault(3);
        int bits = 8 << sheets[k].lane;
        sheets[k].cells[i] = v << 32 - bits >> 32 - bits;
        return 1;
    }

    long cell(int k, int i, int lane) {
        fault = 0;
        if (!in(k, 0, 3) || !in(lane, 0, 2)) return Long.MIN_VALUE;
        if (sheets[k] != null && sheets[k].lane != lane) fault(2);
        else if (sheets[k] == null) fault(1);
        else if (!covers(sheets[k], i, 1)) fault(3);
        return fault != 0 ? Long.MIN_VALUE : sheets[k].cells[i];
    }

    int copy(int k, int i, int other, int j, int n) {
        fault = 0;
        if (!in(k, 0, 3) || !in(other, 0, 3)) return UNKNOWN;
        if (sheets[k] == null || sheets[other] == null) return fault(1);
        if (sheets[k].lane != sheets[other].lane) return fault(2);
        if (!covers(sheets[k], i, n) || !covers(sheets[other], j, n)) return fault(3);
        int[] asTheyWere = sheets[k].cells.clone();
        for (int c = 0; c < n; c++) sheets[other].cells[j + c] = asTheyWere[i + c];
        return n;
    }

    private class Lamp {
        final int k;

        Lamp(int k) {
            this.k = k;
        }

        int tell() {
            trace = 31 * trace + 1;
            return world.firsts[k];
        }

        int see() {
            trace = 31 * trace + 4;
            return k;
        }
    }

    private class Mirrored extends Lamp {
        Mirrored(int k) {
            super(k);
        }

        @Override
        int tell() {
            trace = 31 * trace + 2;
            return super.tell() + 100;
        }
    }

    private final class Feast extends Mirrored {
        Feast(int k) {
            super(k);
        }

        @Override
        int tell() {
            trace = 31 * trace + 3;
            return super.tell() + new Lamp(k).tell();
        }

        @Override
        int see() {
            trace = 31 * trace + 5;
            return 60;
        }
    }

    private Lamp part(int k) {
        return switch (world.kinds[k]) {
            case 0 -> new Lamp(k);
            case 1 -> new Mirrored(k);
            default -> new Feast(k);
        };
    }

    int tell(int k) {
        return lamp(k) ? part(k).tell() : UNKNOWN;
    }

    int see(int k) {
        return lamp(k) ? part(k).see() : UNKNOWN;
    }

    int as(int k, int kind) {
        fault = 0;
        if (!lamp(k)) return UNKNOWN;
        if (!in(kind, 0, 2)) return OUTSIDE;
        Lamp part = part(k);
        boolean is = kind == 0 || kind == 1 && part instanceof Mirrored || kind == 2 && part instanceof Feast;
        return is ? 1 : fault(2);
    }

    int trace() {
        return trace;
    }

    int fault() {
        return fault;
    }

    int many(int what) {
        if (!in(what, 0, 4)) return OUTSIDE;
        if (world == null) return 0;
        int[] many = {world.kinds.length, world.shades.length, world.moves.size(), readings.size(), world.age};
        return many[what];
    }
}
