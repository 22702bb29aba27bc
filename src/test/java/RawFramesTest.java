/** Promises 1 to 8: a new object and the raw frames. */
public final class RawFramesTest {
    private static final Due due = new Due();
    private static final int MIN = Due.MIN;
    private static final int MAX = Due.MAX;

    public static void main(String[] args) {
        promise1New();
        promise2Reel();
        promise2ReelKeepsRules();
        promise3Frame();
        promise4Again();
        promise4AgainRefused();
        promise5Put();
        promise6Row();
        promise7Raw();
        promise8Rule();
        due.end();
    }

    private static void promise1New() {
        Bench x = new Bench();
        int[] want = {2, 2, 0, 0, 0, 0, 1, 2, 5};
        for (int what = 0; what < want.length; what++) {
            due.is("new: many(" + what + ")", x.many(what), want[what]);
        }
        due.is("new: back()", x.back(), FilmBench.NONE);
        due.is("new: peel()", x.peel(), FilmBench.NONE);
        due.is("new: raw(0, 0, 0)", x.raw(0, 0, 0), FilmBench.NOTHING);
        due.is("new: frame()", x.frame(), 0);
        due.is("new: raw(0, 1, 1)", x.raw(0, 1, 1), -1);
        due.is("new: raw(0, 2, 0)", x.raw(0, 2, 0), FilmBench.NOTHING);
        due.is("new: raw(0, 0, 2)", x.raw(0, 0, 2), FilmBench.NOTHING);
    }

    private static void promise2Reel() {
        Bench x = new Bench();
        for (int high = -1; high <= 8; high++) {
            for (int wide = -1; wide <= 8; wide++) {
                boolean may = high >= 2 && high <= 6 && wide >= 2 && wide <= 6;
                due.is("reel(" + high + ", " + wide + ")", x.reel(high, wide), may ? high * wide : FilmBench.NUMBER);
            }
        }
        x.reel(3, 4);
        x.frame();
        x.layer(0, 0, 0, 0);
        int[] before = x.seen();
        for (int wrong : new int[] {MIN, -2, 0, 1, 7, MAX}) {
            due.is("reel(" + wrong + ", 2)", x.reel(wrong, 2), FilmBench.NUMBER);
            due.is("reel(2, " + wrong + ")", x.reel(2, wrong), FilmBench.NUMBER);
        }
        due.same("a refused reel changes nothing", x.seen(), before);
        due.is("reel(5, 2)", x.reel(5, 2), 10);
        due.is("high", x.many(0), 5);
        due.is("wide", x.many(1), 2);
        due.is("no frames", x.many(2), 0);
        due.is("no layers", x.many(3), 0);
        due.is("raw of no frame", x.raw(0, 0, 0), FilmBench.NOTHING);
        x.frame();
        due.is("raw(0, 4, 1)", x.raw(0, 4, 1), -1);
    }

    private static void promise2ReelKeepsRules() {
        Bench x = new Bench();
        x.rule(0, 3);
        x.rule(1, 9);
        x.rule(2, 50);
        x.keep();
        x.reel(4, 4);
        due.is("S stays", x.many(6), 3);
        due.is("D stays", x.many(7), 9);
        due.is("E stays", x.many(8), 50);
        due.is("what is kept stays", x.back(), 1);
        due.is("high is back", x.many(0), 2);
    }

    private static void promise3Frame() {
        Bench x = new Bench();
        x.reel(6, 6);
        for (int f = 0; f < 10; f++) {
            due.is("frame()", x.frame(), f);
            x.row(f, 0, 0L);
        }
        due.is("frame() of 11", x.frame(), FilmBench.FULL);
        due.is("10 frames", x.many(2), 10);
        x.reel(6, 6);
        due.is("frame()", x.frame(), 0);
        due.is("a new frame is lost", x.raw(0, 0, 0), -1);
        due.is("all of it", x.many(5), 36);
    }

    private static void promise4Again() {
        Bench x = Due.bench(new int[][] {{0, 10, -1}, {62, 63, 5}});
        due.is("again(0, 5)", x.again(0, 5), 1);
        due.raw(x, 1, new int[][] {{5, 15, -1}, {63, 63, 10}});
        due.is("again(1, -10)", x.again(1, -10), 2);
        due.raw(x, 2, new int[][] {{0, 5, -1}, {53, 53, 0}});
        due.is("again(0, 63)", x.again(0, 63), 3);
        due.raw(x, 3, new int[][] {{63, 63, -1}, {63, 63, 63}});
        due.is("again(0, -63)", x.again(0, -63), 4);
        due.raw(x, 4, new int[][] {{0, 0, -1}, {0, 0, 0}});
        due.is("again(0, 0)", x.again(0, 0), 5);
        due.raw(x, 5, new int[][] {{0, 10, -1}, {62, 63, 5}});
        x.layer(3, 0, 1, 1);
        due.is("again(0, 0) of RAW", x.again(0, 0), 6);
        due.raw(x, 6, new int[][] {{0, 10, -1}, {62, 63, 5}});
        x.put(6, 0, 0, 33);
        due.is("the first is its own", x.raw(0, 0, 0), 0);
    }

    private static void promise4AgainRefused() {
        Bench x = Due.bench(new int[][] {{0, 10}, {62, 63}});
        int[] before = x.seen();
        for (int wrong : new int[] {MIN, -64, 64, MAX}) {
            due.is("again(0, " + wrong + ")", x.again(0, wrong), FilmBench.NUMBER);
        }
        for (int wrong : new int[] {MIN, -1, 1, 10, MAX}) {
            due.is("again(" + wrong + ", 0)", x.again(wrong, 0), FilmBench.NUMBER);
        }
        due.same("a refused again changes nothing", x.seen(), before);
        for (int f = 1; f < 10; f++) {
            due.is("again(0, 1)", x.again(0, 1), f);
        }
        due.is("again(0, 1) of 11", x.again(0, 1), FilmBench.FULL);
        due.is("again(10, 1): the number first", x.again(10, 1), FilmBench.NUMBER);
        due.is("again(0, 64): the number first", x.again(0, 64), FilmBench.NUMBER);
        due.is("10 frames", x.many(2), 10);
    }

    private static void promise5Put() {
        Bench x = new Bench();
        x.reel(2, 3);
        due.is("put without frames", x.put(0, 0, 0, 0), FilmBench.NOTHING);
        x.frame();
        x.frame();
        due.is("put(0, 1, 2, 63)", x.put(0, 1, 2, 63), -1);
        due.is("put(0, 1, 2, 0)", x.put(0, 1, 2, 0), 63);
        due.is("put(0, 1, 2, -1)", x.put(0, 1, 2, -1), 0);
        due.is("put(0, 1, 2, 7)", x.put(0, 1, 2, 7), -1);
        due.raw(x, 0, new int[][] {{-1, -1, -1}, {-1, -1, 7}});
        due.raw(x, 1, new int[][] {{-1, -1, -1}, {-1, -1, -1}});
        int[] before = x.seen();
        for (int wrong : new int[] {MIN, -1, 2, MAX}) {
            due.is("put(" + wrong + ", 0, 0, 1)", x.put(wrong, 0, 0, 1), FilmBench.NOTHING);
            due.is("put(0, " + wrong + ", 0, 1)", x.put(0, wrong, 0, 1), FilmBench.NOTHING);
        }
        for (int wrong : new int[] {MIN, -1, 3, MAX}) {
            due.is("put(0, 0, " + wrong + ", 1)", x.put(0, 0, wrong, 1), FilmBench.NOTHING);
        }
        for (int wrong : new int[] {MIN, -2, 64, MAX}) {
            due.is("put(0, 0, 0, " + wrong + ")", x.put(0, 0, 0, wrong), FilmBench.NOTHING);
        }
        due.same("a refused put changes nothing", x.seen(), before);
    }

    private static void promise6Row() {
        Bench x = new Bench();
        x.reel(3, 6);
        due.is("row without frames", x.row(0, 0, 0L), FilmBench.NUMBER);
        x.frame();
        due.is("row of six", x.row(0, 1, Due.rowOf(1, -1, 63, 0, -1, 20)), 4);
        due.raw(x, 0, new int[][] {{-1, -1, -1, -1, -1, -1}, {1, -1, 63, 0, -1, 20}, {-1, -1, -1, -1, -1, -1}});
        due.is("row of ones", x.row(0, 1, -1L), 0);
        due.is("127 is lost", x.raw(0, 1, 5), -1);
        due.is("row of bits above", x.row(0, 1, ~((1L << 42) - 1)), 6);
        due.raw(x, 0, new int[][] {{-1, -1, -1, -1, -1, -1}, {0, 0, 0, 0, 0, 0}, {-1, -1, -1, -1, -1, -1}});
        due.is("64 and 63", x.row(0, 2, 64L | 63L << 35), 5);
        due.is("64 is lost", x.raw(0, 2, 0), -1);
        due.is("column 5", x.raw(0, 2, 5), 63);
        int[] before = x.seen();
        for (int wrong : new int[] {MIN, -1, 3, MAX}) {
            due.is("row(0, " + wrong + ", 0)", x.row(0, wrong, 0L), FilmBench.NUMBER);
        }
        for (int wrong : new int[] {MIN, -1, 1, MAX}) {
            due.is("row(" + wrong + ", 0, 0)", x.row(wrong, 0, 0L), FilmBench.NUMBER);
        }
        due.same("a refused row changes nothing", x.seen(), before);
    }

    private static void promise7Raw() {
        Bench x = Due.bench(new int[][] {{0, 1, 2}, {3, 4, -1}});
        due.raw(x, 0, new int[][] {{0, 1, 2}, {3, 4, -1}});
        x.layer(3, 0, 1, 0);
        due.raw(x, 0, new int[][] {{0, 1, 2}, {3, 4, -1}});
        for (int wrong : new int[] {MIN, -1, 1, MAX}) {
            due.is("raw(" + wrong + ", 0, 0)", x.raw(wrong, 0, 0), FilmBench.NOTHING);
        }
        for (int wrong : new int[] {MIN, -1, 2, MAX}) {
            due.is("raw(0, " + wrong + ", 0)", x.raw(0, wrong, 0), FilmBench.NOTHING);
        }
        for (int wrong : new int[] {MIN, -1, 3, MAX}) {
            due.is("raw(0, 0, " + wrong + ")", x.raw(0, 0, wrong), FilmBench.NOTHING);
        }
    }

    private static void promise8Rule() {
        int[] least = {0, 0, 1};
        int[] most = {3, 10, 63};
        for (int what = 0; what < 3; what++) {
            Bench x = new Bench();
            int[] now = {1, 2, 5};
            for (int v = -2; v < 70; v++) {
                if (v < least[what] || v > most[what]) {
                    due.is("rule(" + what + ", " + v + ")", x.rule(what, v), FilmBench.NUMBER);
                } else {
                    due.is("rule(" + what + ", " + v + ")", x.rule(what, v), now[what]);
                    now[what] = v;
                }
                due.is("S", x.many(6), now[0]);
                due.is("D", x.many(7), now[1]);
                due.is("E", x.many(8), now[2]);
            }
            due.is("rule(" + what + ", MIN)", x.rule(what, MIN), FilmBench.NUMBER);
            due.is("rule(" + what + ", MAX)", x.rule(what, MAX), FilmBench.NUMBER);
        }
        for (int wrong : new int[] {MIN, -1, 3, MAX}) {
            due.is("rule(" + wrong + ", 1)", new Bench().rule(wrong, 1), FilmBench.NUMBER);
        }
    }
}
