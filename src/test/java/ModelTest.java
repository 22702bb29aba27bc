import java.util.Random;

/** Long runs of calls, some of them wrong ones, each answer against the model's. All promises. */
public final class ModelTest {
    private static final int RUNS = 600;
    private static final int CALLS = 512;
    private static final String[] NAMES = {
        "reel", "frame", "again", "put", "row", "raw", "rule", "miss", "shift", "drift", "path", "bends",
        "dust", "layer", "on", "peel", "made", "changed", "of", "told", "many", "keep", "back"};
    // How often each call comes, in the order of NAMES.
    private static final int[] WEIGHTS = {
        1, 12, 10, 30, 30, 10, 10, 30, 25, 15, 20, 12, 12, 20, 10, 3, 30, 20, 12, 25, 10, 4, 4};
    private static final int[] ODD = {Integer.MIN_VALUE, -1000, -64, -4, -3, -2, -1, 0, 6, 7, 10, 12, 63, 64, Integer.MAX_VALUE};

    private final Due due;
    private final Random chance;
    private final Bench bench = new Bench();
    private final Model model = new Model();
    private final int greys;
    private final int lostOf100;

    private ModelTest(Due due, int run) {
        this.due = due;
        chance = new Random(run);
        greys = new int[] {2, 3, 12, 64}[run % 4];
        lostOf100 = new int[] {0, 5, 30, 70}[run / 4 % 4];
    }

    public static void main(String[] args) {
        Due due = new Due();
        for (int run = 0; run < RUNS; run++) {
            ModelTest test = new ModelTest(due, run);
            test.call(run, NAMES[0]);
            while (test.bench.callsSoFar() < CALLS) {
                test.call(run, test.anyName());
            }
        }
        due.end();
    }

    private String anyName() {
        int all = 0;
        for (int weight : WEIGHTS) all += weight;
        int at = chance.nextInt(all);
        int n = 0;
        while (at >= WEIGHTS[n]) at -= WEIGHTS[n++];
        return NAMES[n];
    }

    /** A number from least to most; now and then an odd one. */
    private int any(int least, int most) {
        if (chance.nextInt(60) == 0) return ODD[chance.nextInt(ODD.length)];
        return most < least ? least : least + chance.nextInt(most - least + 1);
    }

    private int anyFrame() {
        return any(0, model.many(2) - 1);
    }

    private int anyLayer() {
        return any(0, model.many(3) - 1);
    }

    private int anyY() {
        return any(0, model.many(0) - 1);
    }

    private int anyX() {
        return any(0, model.many(1) - 1);
    }

    private int anyGrey() {
        return chance.nextInt(100) < lostOf100 ? -1 : any(0, greys - 1);
    }

    private long anyRow() {
        if (chance.nextInt(10) == 0) return chance.nextLong();
        int[] row = new int[6];
        for (int x = 0; x < 6; x++) row[x] = chance.nextInt(100) < lostOf100 ? -1 : chance.nextInt(greys);
        return Due.rowOf(row);
    }

    private void call(int run, String name) {
        int a;
        int b;
        int c;
        int d;
        switch (name) {
            case "reel" -> say(run, name, bench.reel(a = any(2, 6), b = any(2, 6)), model.reel(a, b), a, b);
            case "frame" -> {
                say(run, name, bench.frame(), model.frame());
                fill(run);
            }
            case "again" -> say(run, name, bench.again(a = anyFrame(), b = any(-5, 5)), model.again(a, b), a, b);
            case "put" -> say(run, name, bench.put(a = anyFrame(), b = anyY(), c = anyX(), d = anyGrey()), model.put(a, b, c, d), a, b, c, d);
            case "row" -> row(run, anyFrame(), anyY());
            case "raw" -> say(run, name, bench.raw(a = anyFrame(), b = anyY(), c = anyX()), model.raw(a, b, c), a, b, c);
            case "rule" -> {
                a = any(0, 2);
                b = a == 0 ? any(0, 3) : a == 1 ? any(0, 10) : any(1, 8);
                say(run, name, bench.rule(a, b), model.rule(a, b), a, b);
            }
            case "miss" -> say(run, name, bench.miss(a = anyFrame(), b = any(-2, 2), c = any(-2, 2), d = any(0, 1)), model.miss(a, b, c, d), a, b, c, d);
            case "shift" -> say(run, name, bench.shift(a = anyFrame(), b = any(0, 1)), model.shift(a, b), a, b);
            case "drift" -> say(run, name, bench.drift(a = anyFrame(), b = any(0, 1)), model.drift(a, b), a, b);
            case "path" -> say(run, name, bench.path(a = anyFrame(), b = any(0, 1)), model.path(a, b), a, b);
            case "bends" -> say(run, name, bench.bends(a = any(0, 1), b = any(0, 1)), model.bends(a, b), a, b);
            case "dust" -> say(run, name, bench.dust(a = anyFrame()), model.dust(a), a);
            case "layer" -> {
                a = any(0, 3);
                c = a == 1 ? anyFrame() : any(-3, 3);
                say(run, name, bench.layer(a, b = anyFrame(), c, d = any(-3, 3)), model.layer(a, b, c, d), a, b, c, d);
            }
            case "on" -> {
                boolean is = chance.nextInt(3) > 0;
                say(run, name, bench.on(a = anyLayer(), is), model.on(a, is), a, is ? 1 : 0);
            }
            case "peel" -> say(run, name, bench.peel(), model.peel());
            case "made" -> say(run, name, bench.made(a = anyFrame(), b = anyY(), c = anyX()), model.made(a, b, c), a, b, c);
            case "changed" -> say(run, name, bench.changed(a = anyLayer()), model.changed(a), a);
            case "of" -> say(run, name, bench.of(a = anyLayer(), b = any(0, 4)), model.of(a, b), a, b);
            case "told" -> say(run, name, bench.told(a = anyFrame(), b = any(0, 4)), model.told(a, b), a, b);
            case "many" -> say(run, name, bench.many(a = any(0, 8)), model.many(a), a);
            case "keep" -> say(run, name, bench.keep(), model.keep());
            default -> say(run, name, bench.back(), model.back());
        }
    }

    /** A new frame is all lost, which shows little: most get their rows at once. */
    private void fill(int run) {
        if (chance.nextInt(8) == 0) return;
        int last = model.many(2) - 1;
        for (int y = 0; y < model.many(0) && bench.callsSoFar() < CALLS; y++) {
            row(run, last, y);
        }
    }

    private void row(int run, int frame, int y) {
        long greysOfRow = anyRow();
        say(run, "row", bench.row(frame, y, greysOfRow), model.row(frame, y, greysOfRow), frame, y, greysOfRow);
    }

    private void say(int run, String name, int got, int want, long... args) {
        due.is("run " + run + ": " + name + java.util.Arrays.toString(args), got, want);
    }
}
