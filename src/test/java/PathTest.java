/**
 * Promises 12 and 13 once more: THE PATH against every path that may be, for every drift of up to four
 * frames with every S, and for some of up to six frames.
 */
public final class PathTest {
    private static final Due due = new Due();
    private static int[] drifts;
    private static int most;
    private static int[] trial;
    private static int[] best;
    private static int bestBends;
    private static int bestStrays;

    public static void main(String[] args) {
        everyDriftOfFewFrames();
        someOfMoreFrames();
        due.end();
    }

    /** Three shifts of -2 to 2 along x, and the same ones in turned order along y. */
    private static void everyDriftOfFewFrames() {
        for (int n = 0; n < 125; n++) {
            int[] across = {n / 25 - 2, n / 5 % 5 - 2, n % 5 - 2};
            int[] down = {across[2], across[1], across[0]};
            for (int frames = 1; frames <= 4; frames++) {
                Bench bench = Due.drifting(java.util.Arrays.copyOf(across, frames - 1), java.util.Arrays.copyOf(down, frames - 1));
                for (int f = 1; f < frames; f++) {
                    due.is("shift(" + f + ", 0)", bench.shift(f, 0), across[f - 1]);
                    due.is("shift(" + f + ", 1)", bench.shift(f, 1), down[f - 1]);
                }
                for (most = 0; most <= 3; most++) {
                    bench.rule(0, most);
                    compare(bench, frames, 0);
                    compare(bench, frames, 1);
                }
            }
        }
    }

    private static void someOfMoreFrames() {
        java.util.Random chance = new java.util.Random(5);
        for (int run = 0; run < 200; run++) {
            Bench bench = new Bench();
            bench.reel(2 + chance.nextInt(3), 2 + chance.nextInt(3));
            int frames = 1 + chance.nextInt(6);
            for (int f = 0; f < frames; f++) {
                bench.frame();
                for (int y = 0; y < bench.many(0); y++) {
                    bench.row(f, y, chance.nextLong());
                }
            }
            most = frames == 6 ? chance.nextInt(3) : chance.nextInt(4);
            bench.rule(0, most);
            compare(bench, frames, 0);
            compare(bench, frames, 1);
        }
    }

    private static void compare(Bench bench, int frames, int axis) {
        drifts = new int[frames];
        for (int f = 0; f < frames; f++) {
            drifts[f] = bench.drift(f, axis);
        }
        trial = new int[frames];
        best = null;
        tryAll(0);
        for (int f = 0; f < frames; f++) {
            due.is("path(" + f + ", " + axis + ")", bench.path(f, axis), best[f]);
        }
        due.is("bends(" + axis + ", 0)", bench.bends(axis, 0), bestBends);
        due.is("bends(" + axis + ", 1)", bench.bends(axis, 1), bestStrays);
    }

    /** By rising numbers, so that of equals the one that came first has the lesser ones. */
    private static void tryAll(int f) {
        if (f == trial.length) {
            weigh();
            return;
        }
        for (int p = drifts[f] - most; p <= drifts[f] + most; p++) {
            trial[f] = p;
            tryAll(f + 1);
        }
    }

    private static void weigh() {
        int bends = 0;
        int strays = 0;
        for (int f = 0; f < trial.length; f++) {
            strays += Math.abs(trial[f] - drifts[f]);
            if (f > 0 && f + 1 < trial.length) {
                bends += Math.abs(trial[f + 1] - 2 * trial[f] + trial[f - 1]);
            }
        }
        if (best == null || bends < bestBends || bends == bestBends && strays < bestStrays) {
            best = trial.clone();
            bestBends = bends;
            bestStrays = strays;
        }
    }
}
