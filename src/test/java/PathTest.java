/** Promises 12 and 13 once more: THE PATH against every path that may be, for up to six frames. */
public final class PathTest {
    private static final Due due = new Due();
    private static int[] drifts;
    private static int most;
    private static int[] trial;
    private static int[] best;
    private static int bestBends;
    private static int bestStrays;

    public static void main(String[] args) {
        java.util.Random chance = new java.util.Random(5);
        for (int run = 0; run < 200; run++) {
            Bench bench = new Bench();
            bench.reel(2 + chance.nextInt(3), 2 + chance.nextInt(3));
            int frames = 1 + chance.nextInt(6);
            for (int f = 0; f < frames; f++) {
                bench.frame();
                for (int y = 0; y < bench.many(0); y++) {
                    bench.row(f, y, chance.nextLong());
                }
            }
            most = frames == 6 ? chance.nextInt(3) : chance.nextInt(4);
            bench.rule(0, most);
            compare(bench, frames, 0);
            compare(bench, frames, 1);
        }
        due.end();
    }

    private static void compare(Bench bench, int frames, int axis) {
        drifts = new int[frames];
        for (int f = 0; f < frames; f++) {
            drifts[f] = bench.drift(f, axis);
        }
        trial = new int[frames];
        best = null;
        tryAll(0);
        for (int f = 0; f < frames; f++) {
            due.is("path(" + f + ", " + axis + ")", bench.path(f, axis), best[f]);
        }
        due.is("bends(" + axis + ", 0)", bench.bends(axis, 0), bestBends);
        due.is("bends(" + axis + ", 1)", bench.bends(axis, 1), bestStrays);
    }

    /** By rising numbers, so that of equals the one that came first has the lesser ones. */
    private static void tryAll(int f) {
        if (f == trial.length) {
            weigh();
            return;
        }
        for (int p = drifts[f] - most; p <= drifts[f] + most; p++) {
            trial[f] = p;
            tryAll(f + 1);
        }
    }

    private static void weigh() {
        int bends = 0;
        int strays = 0;
        for (int f = 0; f < trial.length; f++) {
            strays += Math.abs(trial[f] - drifts[f]);
            if (f > 0 && f + 1 < trial.length) {
                bends += Math.abs(trial[f + 1] - 2 * trial[f] + trial[f - 1]);
            }
        }
        if (best == null || bends < bestBends || bends == bestBends && strays < bestStrays) {
            best = trial.clone();
            bestBends = bends;
            bestStrays = strays;
        }
    }
}
