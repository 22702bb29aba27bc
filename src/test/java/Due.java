import java.util.Arrays;

/** Counts the answers that are not the ones that are due, and ends a test by them. */
final class Due {
    private int wrong = 0;
    private int asked = 0;

    void is(String call, long got, long want) {
        asked++;
        if (got != want) {
            wrong++;
            if (wrong <= 50) {
                System.out.println(call + " answered " + got + ", due is " + want);
            }
        }
    }

    void isTrue(String what, boolean holds) {
        is(what, holds ? 1 : 0, 1);
    }

    void end() {
        System.out.println(wrong == 0 ? asked + " answers, all as due" : wrong + " of " + asked + " answers are not as due");
        if (wrong != 0) {
            System.exit(1);
        }
    }

    /** The number by which row() is told these greys; -1 is lost. */
    static long rowOf(int... greys) {
        long told = 0;
        for (int x = 0; x < greys.length; x++) {
            told |= (long) (greys[x] < 0 ? 64 : greys[x]) << (7 * x);
        }
        return told;
    }

    /** A bench with a reel of these frames, each told as its rows' greys. */
    static FilmBench bench(int[][]... frames) {
        FilmBench bench = new FilmBench();
        bench.reel(frames[0].length, frames[0][0].length);
        for (int f = 0; f < frames.length; f++) {
            bench.frame();
            for (int y = 0; y < frames[f].length; y++) {
                bench.row(f, y, rowOf(frames[f][y]));
            }
        }
        return bench;
    }

    /** All that can be asked of a bench without changing it, in one row. */
    static int[] all(FilmBench bench) {
        int[] seen = new int[4000];
        int n = 0;
        for (int what = 0; what < 9; what++) {
            seen[n++] = bench.many(what);
        }
        for (int f = 0; f < 10; f++) {
            for (int y = 0; y < 6; y++) {
                for (int x = 0; x < 6; x++) {
                    seen[n++] = bench.raw(f, y, x);
                    seen[n++] = bench.made(f, y, x);
                }
            }
        }
        for (int layer = 0; layer < 12; layer++) {
            for (int what = 0; what < 5; what++) {
                seen[n++] = bench.of(layer, what);
            }
            seen[n++] = bench.changed(layer);
        }
        return Arrays.copyOf(seen, n);
    }

    void same(String what, int[] got, int[] want) {
        isTrue(what, Arrays.equals(got, want));
    }
}
