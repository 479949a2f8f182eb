import java.util.Random;

/** Long runs of calls, of ordinary and of wild numbers, against the plain model; each run is told by its seed. */
public final class ModelTest {
    private static final int RUNS = 1200;
    private static final int CALLS = 512;
    private static final int[] WILD = {Integer.MIN_VALUE, Integer.MIN_VALUE + 1, -1000, -1, 0, 1, 2, 3, 4, 5, 6, 7, 8, 9,
        10, 11, 12, 13, 23, 24, 59, 60, 61, 99, 998, 999, 1000, Integer.MAX_VALUE - 1, Integer.MAX_VALUE};

    private final Due due;
    private final Random random;
    private final int seed;
    private final OldLamps x = new OldLamps();
    private final Model model = new Model();
    private final int wildness;
    private int calls = 0;

    private ModelTest(Due due, int seed) {
        this.due = due;
        this.seed = seed;
        this.random = new Random(seed);
        this.wildness = seed % 3 == 0 ? 6 : 60;
    }

    public static void main(String[] args) {
        Due due = new Due("ModelTest");
        for (int seed = 0; seed < RUNS; seed++) new ModelTest(due, seed).run();
        due.end();
    }

    private void run() {
        for (int step = 0; calls < CALLS - 60; step++) {
            if (step == 2 || random.nextInt(60) == 0) tellText();
            else if (random.nextInt(25) == 0) tellMoves();
            else if (random.nextInt(12) == 0) tellReading();
            else anyCall();
        }
    }

    private int any(int least, int most) {
        if (random.nextInt(wildness) == 0) return WILD[random.nextInt(WILD.length)];
        return least + random.nextInt(most - least + 1);
    }

    private int watch() {
        return any(0, 23);
    }

    private int number() {
        int most = Math.max(0, model.many(0) - 1);
        return any(0, most);
    }

    private int spot() {
        return any(0, Math.max(0, model.many(1) - 1));
    }

    private void is(String call, long got, long want) {
        calls++;
        due.is("seed " + seed + ", call " + calls + ": " + call, got, want);
    }

    private void tellText() {
        StringBuilder text = new StringBuilder("o");
        boolean bright = random.nextBoolean();
        for (int w = 0; w < 6; w++) text.append(bright ? 5 + random.nextInt(5) : random.nextInt(10));
        int spots = 1 + random.nextInt(4);
        for (int s = 0; s < spots; s++) text.append(';').append(random.nextInt(bright ? 5 : 10));
        int lamps = 1 + random.nextInt(4);
        for (int k = 0; k < lamps; k++) {
            text.append(',').append("lmf".charAt(random.nextInt(3))).append(random.nextInt(spots));
        }
        if (random.nextInt(4) == 0) spoil(text);
        int sheet = random.nextInt(4);
        int lane = random.nextInt(3);
        int i = random.nextInt(4);
        is("sheet", x.sheet(sheet, lane, i + text.length()), model.sheet(sheet, lane, i + text.length()));
        for (int j = 0; j < text.length(); j++) {
            is("put", x.put(sheet, i + j, text.charAt(j)), model.put(sheet, i + j, text.charAt(j)));
        }
        is("coast of " + text, x.coast(sheet, lane, i, text.length()), model.coast(sheet, lane, i, text.length()));
    }

    private void spoil(StringBuilder text) {
        String codes = "o;,lmf0123456789x";
        char code = codes.charAt(random.nextInt(codes.length()));
        int place = random.nextInt(text.length());
        switch (random.nextInt(4)) {
            case 0 -> text.setCharAt(place, code);
            case 1 -> text.insert(place, code);
            case 2 -> text.setLength(place);
            default -> text.append(code);
        }
    }

    private void tellMoves() {
        int sheet = random.nextInt(4);
        int lane = random.nextInt(3);
        int n = random.nextInt(9);
        is("sheet", x.sheet(sheet, lane, 3 * n), model.sheet(sheet, lane, 3 * n));
        for (int j = 0; j < n; j++) {
            int[] cells = {number(), watch(), spot()};
            for (int c = 0; c < 3; c++) {
                is("put", x.put(sheet, 3 * j + c, cells[c]), model.put(sheet, 3 * j + c, cells[c]));
            }
        }
        int s = spot();
        int w = watch();
        is("moves", x.moves(s, w, sheet, lane, 0, n), model.moves(s, w, sheet, lane, 0, n));
    }

    /** A reading that is so, or nearly, so that the sets are not always empty. */
    private void tellReading() {
        int s = spot();
        int w = watch();
        int v = model.light(s, w) + (random.nextInt(3) == 0 ? random.nextInt(3) : 0);
        if (random.nextInt(3) == 0 && model.many(3) > 0) is("back", x.back(1), model.back(1));
        is("reading", x.reading(s, w, v), model.reading(s, w, v));
    }

    private void anyCall() {
        switch (random.nextInt(5)) {
            case 0 -> callOfTheCoast();
            case 1 -> callOfWatches();
            case 2 -> callOfMoves();
            case 3 -> callOfReadings();
            default -> callOfSheets();
        }
        if (random.nextInt(4) == 0) is("fault()", x.fault(), model.fault());
        if (random.nextInt(8) == 0) is("trace()", x.trace(), model.trace());
    }

    private void callOfTheCoast() {
        int k = number();
        int s = spot();
        int w = watch();
        int v = any(0, 9);
        int little = any(0, 2);
        switch (random.nextInt(9)) {
            case 0 -> is("sky(" + v + ")", x.sky(v), model.sky(v));
            case 1 -> is("shade(" + s + ")", x.shade(s), model.shade(s));
            case 2 -> is("ofLamp(" + k + ", " + little + ")", x.ofLamp(k, little), model.ofLamp(k, little));
            case 3 -> is("cloud(" + little + ", " + v + ")", x.cloud(little, v), model.cloud(little, v));
            case 4 -> is("age(" + v + ")", x.age(v), model.age(v));
            case 5 -> is("undo(" + little + ")", x.undo(little), model.undo(little));
            case 6 -> is("many(" + v + ")", x.many(v), model.many(v));
            default -> is("move(" + k + ", " + w + ", " + s + ")", x.move(k, w, s), model.move(k, w, s));
        }
    }

    private void callOfWatches() {
        int k = number();
        int s = spot();
        int w = watch();
        int v = any(0, 60);
        switch (random.nextInt(5)) {
            case 0 -> is("where(" + k + ", " + w + ")", x.where(k, w), model.where(k, w));
            case 1 -> is("gives(" + k + ", " + w + ")", x.gives(k, w), model.gives(k, w));
            case 2 -> is("falls(" + k + ", " + w + ")", x.falls(k, w), model.falls(k, w));
            case 3 -> is("light(" + s + ", " + w + ")", x.light(s, w), model.light(s, w));
            default -> is("dark(" + s + ", " + w + ", " + v + ")", x.dark(s, w, v), model.dark(s, w, v));
        }
    }

    private void callOfMoves() {
        int k = number();
        int s = spot();
        int w = watch();
        int v = any(0, 60);
        int what = any(0, 1);
        int little = any(0, 3);
        switch (random.nextInt(8)) {
            case 0 -> is("set(" + s + ", " + w + ", " + what + ")", x.set(s, w, what), model.set(s, w, what));
            case 1 -> is("show(" + s + ", " + v + ", " + what + ")", x.show(s, v, what), model.show(s, v, what));
            case 2, 3 -> is("worth(" + k + ")", x.worth(k), model.worth(k));
            default -> is("moves(" + s + ", " + w + ", " + little + ", " + what + ", " + k + ", " + little + ")",
                x.moves(s, w, little, what, k, little), model.moves(s, w, little, what, k, little));
        }
    }

    private void callOfReadings() {
        int k = number();
        int s = spot();
        int w = watch();
        int v = any(0, 60);
        int little = any(0, 3);
        int which = any(0, 1);
        switch (random.nextInt(7)) {
            case 0 -> is("back(" + little + ")", x.back(little), model.back(little));
            case 1 -> is("stood(" + k + ")", x.stood(k), model.stood(k));
            case 2 -> is("kinds(" + k + ")", x.kinds(k), model.kinds(k));
            case 3 -> is("ages()", x.ages(), model.ages());
            case 4 -> is("clouds(" + little + ")", x.clouds(little), model.clouds(little));
            case 5 -> is("reading(" + s + ", " + w + ", " + v + ")", x.reading(s, w, v), model.reading(s, w, v));
            default -> is("odds(" + s + ", " + w + ", " + v + ", " + which + ")",
                x.odds(s, w, v, which), model.odds(s, w, v, which));
        }
    }

    private void callOfSheets() {
        int a = any(0, 3);
        int b = any(0, 3);
        int lane = any(0, 2);
        int i = any(0, 12);
        int j = any(0, 12);
        int n = any(0, 12);
        switch (random.nextInt(9)) {
            case 0 -> is("sheet(" + a + ", " + lane + ", " + n + ")", x.sheet(a, lane, n), model.sheet(a, lane, n));
            case 1 -> is("lose(" + a + ")", x.lose(a), model.lose(a));
            case 2 -> {
                int v = random.nextInt();
                is("put(" + a + ", " + i + ", " + v + ")", x.put(a, i, v), model.put(a, i, v));
            }
            case 3 -> is("cell(" + a + ", " + i + ", " + lane + ")", x.cell(a, i, lane), model.cell(a, i, lane));
            case 4 -> is("copy(" + a + ", " + i + ", " + b + ", " + j + ", " + n + ")",
                x.copy(a, i, b, j, n), model.copy(a, i, b, j, n));
            case 5 -> is("tell(" + a + ")", x.tell(a), model.tell(a));
            case 6 -> is("see(" + a + ")", x.see(a), model.see(a));
            case 7 -> is("as(" + a + ", " + lane + ")", x.as(a, lane), model.as(a, lane));
            default -> is("coast(" + a + ", " + lane + ", " + i + ", " + n + ")",
                x.coast(a, lane, i, n), model.coast(a, lane, i, n));
        }
    }
}
