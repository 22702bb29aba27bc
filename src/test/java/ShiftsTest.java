/** Promises 9 to 14: misses, shifts, drifts, paths and dust. */
public final class ShiftsTest {
    private static final Due due = new Due();
    private static final int MIN = Due.MIN;
    private static final int MAX = Due.MAX;

    public static void main(String[] args) {
        promise9Miss();
        promise9MissNeedsAQuarter();
        promise9MissRefused();
        promise10ShiftFindsMoves();
        promise10ShiftOfEquals();
        promise10ShiftWithoutAny();
        promise10ShiftRefused();
        promise11Drift();
        promise12Path();
        promise12PathOfEquals();
        promise12PathOfTenThenFewer();
        promise12PathRefused();
        promise13Bends();
        promise14Dust();
        promise14DustEdges();
        due.end();
    }

    private static void promise9Miss() {
        Bench x = Due.bench(
                new int[][] {{1, 2, 3}, {4, 5, 6}},
                new int[][] {{10, 20, 30}, {40, -1, 60}});
        ratio(x, 1, 0, 0, 144, 5);
        ratio(x, 1, 1, 0, 19 + 28 + 55, 3);
        ratio(x, 1, -1, 0, 8 + 17 + 35, 3);
        ratio(x, 1, 0, 1, 96, 2);
        ratio(x, 1, 0, -1, 45, 3);
        ratio(x, 1, 2, 0, 29 + 56, 2);
        ratio(x, 1, -1, -1, 5 + 14, 2);
        x.again(1, 0);
        ratio(x, 2, 0, 0, 0, 5);
        x.put(2, 0, 0, 63);
        ratio(x, 2, 0, 0, 53, 5);
        x.layer(3, 2, 1, 1);
        ratio(x, 2, 0, 0, 53, 5);
    }

    /** The answers are due in lowest terms. */
    private static void ratio(Bench x, int frame, int dx, int dy, int sum, int pairs) {
        int a = sum;
        int b = pairs;
        while (b != 0) {
            int rest = a % b;
            a = b;
            b = rest;
        }
        String call = "miss(" + frame + ", " + dx + ", " + dy + ", ";
        due.is(call + "0)", x.miss(frame, dx, dy, 0), sum / a);
        due.is(call + "1)", x.miss(frame, dx, dy, 1), pairs / a);
    }

    private static void promise9MissNeedsAQuarter() {
        Bench x = new Bench();
        x.reel(3, 3);
        x.frame();
        x.frame();
        for (int f = 0; f < 2; f++) {
            x.put(f, 0, 0, 10 + f);
            x.put(f, 1, 0, 10 + f);
        }
        due.is("2 pairs of 9 squares", x.miss(1, 0, 0, 0), FilmBench.NONE);
        due.is("2 pairs of 9 squares", x.miss(1, 0, 0, 1), FilmBench.NONE);
        x.put(0, 2, 2, 0);
        x.put(1, 2, 2, 1);
        ratio(x, 1, 0, 0, 3, 3);
        Bench z = new Bench();
        z.reel(2, 4);
        z.frame();
        z.frame();
        z.put(0, 0, 0, 4);
        z.put(1, 0, 0, 5);
        due.is("1 pair of 8 squares", z.miss(1, 0, 0, 0), FilmBench.NONE);
        z.put(0, 1, 3, 4);
        z.put(1, 1, 3, 6);
        ratio(z, 1, 0, 0, 3, 2);
        due.is("no rows left", z.miss(1, 0, 2, 0), FilmBench.NONE);
        due.is("no rows left", z.miss(1, 0, -2, 0), FilmBench.NONE);
    }

    private static void promise9MissRefused() {
        Bench x = new Bench();
        due.is("miss without frames", x.miss(0, 0, 0, 0), FilmBench.NUMBER);
        x.frame();
        x.frame();
        due.is("all lost", x.miss(1, 0, 0, 0), FilmBench.NONE);
        for (int wrong : new int[] {MIN, -1, 0, 2, MAX}) {
            due.is("miss(" + wrong + ", ..)", x.miss(wrong, 0, 0, 0), FilmBench.NUMBER);
        }
        for (int wrong : new int[] {MIN, -3, 3, MAX}) {
            due.is("dx " + wrong, x.miss(1, wrong, 0, 0), FilmBench.NUMBER);
            due.is("dy " + wrong, x.miss(1, 0, wrong, 0), FilmBench.NUMBER);
        }
        for (int wrong : new int[] {MIN, -1, 2, MAX}) {
            due.is("what " + wrong, x.miss(1, 0, 0, wrong), FilmBench.NUMBER);
        }
        due.is("-2 is a shift", x.miss(1, -2, -2, 0), FilmBench.NONE);
        due.is("2 is a shift", x.miss(1, 2, 2, 0), FilmBench.NONE);
    }

    private static void promise10ShiftFindsMoves() {
        for (int dy = -2; dy <= 2; dy++) {
            for (int dx = -2; dx <= 2; dx++) {
                Bench x = Due.bench(Due.picture(0, 0), Due.picture(dx, dy));
                due.is("dx of (" + dx + ", " + dy + ")", x.shift(1, 0), dx);
                due.is("dy of (" + dx + ", " + dy + ")", x.shift(1, 1), dy);
            }
        }
    }

    private static void promise10ShiftOfEquals() {
        // All squares alike: every shift has MISS 0, and the least sum of sizes wins.
        Bench flat = Due.bench(new int[][] {{5, 5}, {5, 5}}, new int[][] {{5, 5}, {5, 5}});
        due.is("flat dx", flat.shift(1, 0), 0);
        due.is("flat dy", flat.shift(1, 1), 0);
        // All are 7 off, whatever the number of pairs.
        Bench brighter = Due.bench(new int[][] {{5, 5}, {5, 5}}, new int[][] {{12, 12}, {12, 12}});
        due.is("brighter (1, 1)", brighter.miss(1, 1, 1, 0), 7);
        due.is("brighter dx", brighter.shift(1, 0), 0);
        due.is("brighter dy", brighter.shift(1, 1), 0);
        // Four of size 1 have MISS 0: the least dy wins.
        Bench sides = Due.bench(
                new int[][] {{0, 9, 0}, {9, 0, 9}},
                new int[][] {{9, 0, 9}, {0, 9, 0}});
        due.is("sides: miss of (-1, 0)", sides.miss(1, -1, 0, 0), 0);
        due.is("sides: miss of (1, 0)", sides.miss(1, 1, 0, 0), 0);
        due.is("sides: miss of (0, -1)", sides.miss(1, 0, -1, 0), 0);
        due.is("sides dx", sides.shift(1, 0), 0);
        due.is("sides dy", sides.shift(1, 1), -1);
        // Only (-1, 0) and (1, 0) of size 1 have MISS 0: the least dx wins.
        Bench flanks = Due.bench(
                new int[][] {{0, 9, 0}, {0, 9, 0}},
                new int[][] {{9, 0, 9}, {9, 0, 9}});
        due.is("flanks dx", flanks.shift(1, 0), -1);
        due.is("flanks dy", flanks.shift(1, 1), 0);
        // (1, 0) has MISS 0 and so has (0, -2): the sizes count, not the signs.
        Bench sizes = Due.bench(
                new int[][] {{0, 9, 5, 5}, {3, 1, 8, 5}, {5, 5, 5, 5}},
                new int[][] {{5, 5, 5, 5}, {9, 3, 1, 8}, {2, 5, 5, 5}});
        sizes.row(1, 0, Due.rowOf(5, 0, 9, 5));
        sizes.row(0, 2, Due.rowOf(5, 0, 9, 5));
        due.is("sizes: miss of (1, 0)", sizes.miss(1, 1, 0, 0), 1);
        due.is("sizes: miss of (0, -2)", sizes.miss(1, 0, -2, 0), 0);
        sizes.row(1, 2, Due.rowOf(2, 5, 0, 9));
        due.is("sizes: miss of (1, 0)", sizes.miss(1, 1, 0, 0), 0);
        due.is("sizes dx", sizes.shift(1, 0), 1);
        due.is("sizes dy", sizes.shift(1, 1), 0);
        // (0, -2) and (1, -1) have MISS 0 and size 2: the least dy wins.
        Bench corner = Due.bench(
                new int[][] {{1, 0, 0}, {0, 0, 0}, {0, 0, 0}},
                new int[][] {{0, 0, 0}, {0, 1, 0}, {0, 0, 0}});
        due.is("corner: miss of (1, -1)", corner.miss(1, 1, -1, 0), 1);
        corner.put(0, 2, 0, 1);
        corner.put(1, 0, 0, 1);
        due.is("corner: miss of (1, -1)", corner.miss(1, 1, -1, 0), 0);
        due.is("corner dx", corner.shift(1, 0), 0);
        due.is("corner dy", corner.shift(1, 1), -2);
        // The least MISS wins, however far: 0 of (-1, 0) against 2 / 6 of (0, 0).
        Bench farther = Due.bench(
                new int[][] {{1, 1, 1}, {1, 1, 1}},
                new int[][] {{1, 1, 2}, {1, 1, 2}});
        due.is("farther (0, 0)", farther.miss(1, 0, 0, 1), 3);
        due.is("farther dx", farther.shift(1, 0), -1);
        due.is("farther dy", farther.shift(1, 1), 0);
    }

    private static void promise10ShiftWithoutAny() {
        Bench x = new Bench();
        x.reel(3, 3);
        x.frame();
        x.frame();
        due.is("all lost: dx", x.shift(1, 0), 0);
        due.is("all lost: dy", x.shift(1, 1), 0);
        x.put(0, 0, 0, 3);
        x.put(1, 1, 1, 3);
        due.is("too few: dx", x.shift(1, 0), 0);
        due.is("too few: dy", x.shift(1, 1), 0);
        x.reel(2, 2);
        x.frame();
        x.frame();
        x.put(0, 0, 0, 3);
        x.put(1, 1, 1, 63);
        due.is("the only one: dx", x.shift(1, 0), 1);
        due.is("the only one: dy", x.shift(1, 1), 1);
    }

    private static void promise10ShiftRefused() {
        Bench x = new Bench();
        due.is("shift without frames", x.shift(0, 0), FilmBench.NOTHING);
        x.frame();
        x.frame();
        for (int wrong : new int[] {MIN, -1, 0, 2, MAX}) {
            due.is("shift(" + wrong + ", 0)", x.shift(wrong, 0), FilmBench.NOTHING);
        }
        for (int wrong : new int[] {MIN, -1, 2, MAX}) {
            due.is("shift(1, " + wrong + ")", x.shift(1, wrong), FilmBench.NOTHING);
        }
    }

    private static void promise11Drift() {
        Bench x = Due.drifting(new int[] {1, 2, -1, -2, 0}, new int[] {0, -1, -1, 1, 0});
        int[] wantX = {0, 1, 3, 2, 0, 0};
        int[] wantY = {0, 0, -1, -2, -1, -1};
        for (int f = 0; f < 6; f++) {
            due.is("drift(" + f + ", 0)", x.drift(f, 0), wantX[f]);
            due.is("drift(" + f + ", 1)", x.drift(f, 1), wantY[f]);
        }
        for (int wrong : new int[] {MIN, -1, 6, MAX}) {
            due.is("drift(" + wrong + ", 0)", x.drift(wrong, 0), FilmBench.NOTHING);
        }
        for (int wrong : new int[] {MIN, -1, 2, MAX}) {
            due.is("drift(0, " + wrong + ")", x.drift(0, wrong), FilmBench.NOTHING);
        }
        due.is("drift without frames", new Bench().drift(0, 0), FilmBench.NOTHING);
    }

    private static void promise12Path() {
        Bench x = Due.drifting(new int[] {2, -2, 2, -2}, new int[] {1, 1, 1, 1});
        int[] even = {1, 1, 1, 1, 1};
        int[] rising = {0, 1, 2, 3, 4};
        for (int f = 0; f < 5; f++) {
            due.is("S 1: path(" + f + ", 0)", x.path(f, 0), even[f]);
            due.is("S 1: path(" + f + ", 1)", x.path(f, 1), rising[f]);
        }
        x.rule(0, 0);
        int[] drifts = {0, 2, 0, 2, 0};
        for (int f = 0; f < 5; f++) {
            due.is("S 0: path(" + f + ", 0)", x.path(f, 0), drifts[f]);
        }
        x.rule(0, 3);
        // With room enough an even path at 0 strays 4 in all, one at 1 strays 5.
        for (int f = 0; f < 5; f++) {
            due.is("S 3: path(" + f + ", 0)", x.path(f, 0), 0);
        }
    }

    private static void promise12PathOfEquals() {
        // Drifts 0 2 0: 0 0 0 strays 2, 1 1 1 strays 3, both without bends.
        Bench x = Due.drifting(new int[] {2, -2}, new int[] {-2, 2});
        x.rule(0, 2);
        int[] want = {0, 0, 0};
        for (int f = 0; f < 3; f++) {
            due.is("S 2: path(" + f + ", 0)", x.path(f, 0), want[f]);
            due.is("S 2: path(" + f + ", 1)", x.path(f, 1), want[f]);
        }
        // Drifts 0 1 1: 0 1 2 and 1 1 1 have no bend and one stray of 1; the lesser first number wins.
        Bench z = Due.drifting(new int[] {1, 0}, new int[] {-1, 0});
        int[] lesserX = {0, 1, 2};
        int[] lesserY = {-1, -1, -1};
        for (int f = 0; f < 3; f++) {
            due.is("path(" + f + ", 0)", z.path(f, 0), lesserX[f]);
            due.is("path(" + f + ", 1)", z.path(f, 1), lesserY[f]);
        }
        Bench one = new Bench();
        one.frame();
        due.is("one frame", one.path(0, 0), 0);
        one.frame();
        due.is("two frames", one.path(1, 1), 0);
    }

    private static void promise12PathOfTenThenFewer() {
        Bench x = Due.drifting(new int[] {2, -2, 2, 1, -1, -2, -1, 2, 1}, new int[] {0, 2, 1, -2, 2, -2, 0, 1, -1});
        int[] ofTen = new int[20];
        for (int f = 0; f < 20; f++) {
            ofTen[f] = x.path(f / 2, f % 2);
            due.isTrue("path(" + f / 2 + ", " + f % 2 + ") strays 1 at most", Math.abs(ofTen[f] - x.drift(f / 2, f % 2)) <= 1);
        }
        x.keep();
        int bendsOfTen = x.bends(0, 0);
        x.rule(0, 3);
        due.isTrue("with more room no more bends", x.bends(0, 0) <= bendsOfTen);
        x.reel(6, 6);
        int[] moves = {0, 2, 0, 2, 0};
        for (int f = 0; f < 5; f++) {
            Due.addFrame(x, Due.picture(moves[f], 0));
        }
        for (int f = 0; f < 5; f++) {
            due.is("of five: path(" + f + ", 0)", x.path(f, 0), 0);
        }
        due.is("of five: bends(0, 1)", x.bends(0, 1), 4);
        x.back();
        x.rule(0, 1);
        for (int f = 0; f < 20; f++) {
            due.is("of ten again: path(" + f / 2 + ", " + f % 2 + ")", x.path(f / 2, f % 2), ofTen[f]);
        }
    }

    private static void promise12PathRefused() {
        Bench x = new Bench();
        due.is("path without frames", x.path(0, 0), FilmBench.NOTHING);
        x.frame();
        x.frame();
        for (int wrong : new int[] {MIN, -1, 2, MAX}) {
            due.is("path(" + wrong + ", 0)", x.path(wrong, 0), FilmBench.NOTHING);
            due.is("path(0, " + wrong + ")", x.path(0, wrong), FilmBench.NOTHING);
        }
    }

    private static void promise13Bends() {
        Bench x = Due.drifting(new int[] {2, -2, 2, -2}, new int[] {1, 1, 1, 1});
        due.is("S 1: bends(0, 0)", x.bends(0, 0), 0);
        due.is("S 1: bends(0, 1)", x.bends(0, 1), 5);
        due.is("S 1: bends(1, 0)", x.bends(1, 0), 0);
        due.is("S 1: bends(1, 1)", x.bends(1, 1), 0);
        x.rule(0, 0);
        due.is("S 0: bends(0, 0)", x.bends(0, 0), 12);
        due.is("S 0: bends(0, 1)", x.bends(0, 1), 0);
        x.rule(0, 3);
        due.is("S 3: bends(0, 0)", x.bends(0, 0), 0);
        due.is("S 3: bends(0, 1)", x.bends(0, 1), 4);
        for (int wrong : new int[] {MIN, -1, 2, MAX}) {
            due.is("bends(" + wrong + ", 0)", x.bends(wrong, 0), FilmBench.NUMBER);
            due.is("bends(0, " + wrong + ")", x.bends(0, wrong), FilmBench.NUMBER);
        }
        Bench none = new Bench();
        due.is("without frames: bends(0, 0)", none.bends(0, 0), 0);
        due.is("without frames: bends(1, 1)", none.bends(1, 1), 0);
    }

    private static void promise14Dust() {
        Bench x = Due.bench(
                new int[][] {{10, 10, 10}, {10, -1, 10}, {10, 10, 0}},
                new int[][] {{30, 16, 15}, {4, 30, 30}, {-1, 18, 63}},
                new int[][] {{10, 10, 10}, {10, 10, -1}, {10, 12, 3}});
        due.is("dust(1)", x.dust(1), 4);
        due.is("dust(0)", x.dust(0), 0);
        due.is("dust(2)", x.dust(2), 0);
        x.layer(0, 1, 0, 0);
        due.is("dust(1) is of RAW", x.dust(1), 4);
        x.rule(1, 3);
        due.is("D 3", x.dust(1), 5);
        x.rule(2, 6);
        due.is("E 6", x.dust(1), 2);
        for (int wrong : new int[] {MIN, -1, 3, MAX}) {
            due.is("dust(" + wrong + ")", x.dust(wrong), FilmBench.NUMBER);
        }
        due.is("dust without frames", new Bench().dust(0), FilmBench.NUMBER);
    }

    private static void promise14DustEdges() {
        Bench x = Due.bench(
                new int[][] {{20, 20}, {20, 22}},
                new int[][] {{26, 25}, {27, 28}},
                new int[][] {{20, 20}, {22, 20}});
        // 26 is 6 off both; 25 only 5; 27 is 7 and 5 off; 28 is 6 and 8 off.
        due.is("dust(1)", x.dust(1), 2);
        x.rule(1, 1);
        due.is("D 1", x.dust(1), 1);
        x.rule(2, 63);
        due.is("E 63", x.dust(1), 0);
        // 15 is 5 off the one, 7 off the other, whichever is ahead.
        Bench sides = Due.bench(
                new int[][] {{10, 8}, {20, 22}},
                new int[][] {{15, 15}, {15, 15}},
                new int[][] {{8, 10}, {22, 20}});
        due.is("one side within E", sides.dust(1), 0);
        sides.rule(2, 4);
        due.is("E 4", sides.dust(1), 4);
        // A lost one is not a grey of -1.
        Bench lost = Due.bench(
                new int[][] {{-1, 0}, {-1, 0}},
                new int[][] {{30, 30}, {-1, -1}},
                new int[][] {{0, -1}, {-1, 0}});
        due.is("lost neighbours", lost.dust(1), 0);
    }
}
