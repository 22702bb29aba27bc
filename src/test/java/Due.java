import java.util.Arrays;
import java.util.function.ToIntFunction;

/** Counts the answers that are not the ones that are due, and ends a test by them. */
final class Due {
    static final int MIN = Integer.MIN_VALUE;
    static final int MAX = Integer.MAX_VALUE;

    private int wrong = 0;
    private int asked = 0;
    private String sentence = "";

    /** The sentence of the document that the next answers belong to. */
    void of(String words) {
        sentence = "[" + words + "] ";
    }

    void is(String call, long got, long want) {
        asked++;
        if (got != want) {
            wrong++;
            if (wrong <= 50) {
                System.out.println(sentence + call + " answered " + got + ", due is " + want);
            }
        }
    }

    void isTrue(String what, boolean holds) {
        is(what, holds ? 1 : 0, 1);
    }

    void same(String what, int[] got, int[] want) {
        isTrue(what, Arrays.equals(got, want));
    }

    /** A call is answered as due, and nothing that can be asked is another one than before, nor what is kept. */
    void refused(String call, Bench bench, ToIntFunction<Bench> made, int want) {
        int[] before = bench.seen();
        is(call, made.applyAsInt(bench), want);
        same(call + " changes nothing", bench.seen(), before);
    }

    void raw(Bench bench, int frame, int[][] want) {
        for (int y = 0; y < want.length; y++) {
            for (int x = 0; x < want[y].length; x++) {
                is("raw(" + frame + ", " + y + ", " + x + ")", bench.raw(frame, y, x), want[y][x]);
            }
        }
    }

    void made(Bench bench, int frame, int[][] want) {
        for (int y = 0; y < want.length; y++) {
            for (int x = 0; x < want[y].length; x++) {
                is("made(" + frame + ", " + y + ", " + x + ")", bench.made(frame, y, x), want[y][x]);
            }
        }
    }

    void end() {
        System.out.println(wrong == 0 ? asked + " answers, all as due" : wrong + " of " + asked + " answers are not as due");
        if (wrong != 0) {
            System.exit(1);
        }
    }

    /** The numbers next to a range on both sides, and an int's own least and greatest. */
    static int[] outside(int least, int most) {
        return new int[] {MIN, least - 1, most + 1, MAX};
    }

    /** The number by which row() is told these greys; -1 is lost. */
    static long rowOf(int... greys) {
        long told = 0;
        for (int x = 0; x < greys.length; x++) {
            told |= (long) (greys[x] < 0 ? 64 : greys[x]) << (7 * x);
        }
        return told;
    }

    /** A bench with a reel of these frames, each told as its rows' greys. */
    static Bench bench(int[][]... frames) {
        Bench bench = new Bench();
        bench.reel(frames[0].length, frames[0][0].length);
        for (int[][] squares : frames) {
            addFrame(bench, squares);
        }
        return bench;
    }

    static void addFrame(Bench bench, int[][] squares) {
        int number = bench.frame();
        for (int y = 0; y < squares.length; y++) {
            bench.row(number, y, rowOf(squares[y]));
        }
    }

    /** A bench with a reel of this size and so many frames, all lost. */
    static Bench lost(int high, int wide, int frames) {
        Bench bench = new Bench();
        bench.reel(high, wide);
        for (int f = 0; f < frames; f++) {
            bench.frame();
        }
        return bench;
    }

    /** Squares that are all of one grey. */
    static int[][] flat(int high, int wide, int grey) {
        int[][] squares = new int[high][wide];
        for (int[] line : squares) {
            Arrays.fill(line, grey);
        }
        return squares;
    }

    /** A picture without two like parts, moved; what comes in at its sides goes on with it. */
    static int[][] picture(int dx, int dy) {
        int[][] squares = new int[6][6];
        for (int y = 0; y < 6; y++) {
            for (int x = 0; x < 6; x++) {
                int across = x - dx;
                int down = y - dy;
                squares[y][x] = Math.floorMod(across * across * 7 + down * down * 11 + across * down * 5, 64);
            }
        }
        return squares;
    }

    /** A bench whose frames are the picture, moved on by these shifts. */
    static Bench drifting(int[] dxs, int[] dys) {
        Bench bench = bench(picture(0, 0));
        int sumX = 0;
        int sumY = 0;
        for (int f = 0; f < dxs.length; f++) {
            sumX += dxs[f];
            sumY += dys[f];
            addFrame(bench, picture(sumX, sumY));
        }
        return bench;
    }
}
