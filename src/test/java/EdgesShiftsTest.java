/** Boundary cases of shifts and paths: the second part of Terms 1, and promises 9 to 13. */
public final class EdgesShiftsTest {
    private static final Due due = new Due();

    public static void main(String[] args) {
        termsMissNeedsAQuarter();
        termsMissOfEverySizeAndShift();
        termsMissWithoutLost();
        termsMissOfRaw();
        promise9Cleared();
        promise9FirstAndLastFrame();
        promise9Refused();
        promise9None();
        termsShiftLeastMiss();
        termsShiftLeastSizes();
        termsShiftLeastDy();
        termsShiftLeastDx();
        termsShiftNeedsAMiss();
        promise10EndsOfTheWindow();
        promise10Refused();
        promise11First();
        promise11Farthest();
        promise11Refused();
        promise12FewFrames();
        promise12LeastAndGreatestS();
        promise12OrderOfRules();
        promise12LesserAtFirstUnlike();
        promise12Refused();
        promise13NoneToTenFrames();
        promise13Refused();
        due.end();
    }

    private static void termsMissNeedsAQuarter() {
        due.of("it has one only if four times as many as there are pairs are not fewer than a FRAME's SQUARES");
        for (int high = 2; high <= 6; high++) {
            for (int wide = 2; wide <= 6; wide++) {
                Bench x = Due.lost(high, wide, 2);
                String size = high + " by " + wide + ", ";
                due.refused(size + "no pairs: miss", x, b -> b.miss(1, 0, 0, 0), FilmBench.NONE);
                for (int pairs = 1; pairs <= high * wide; pairs++) {
                    int y = (pairs - 1) / wide;
                    int c = (pairs - 1) % wide;
                    x.put(0, y, c, 20);
                    x.put(1, y, c, pairs == 1 ? 21 : 20);
                    boolean has = 4 * pairs >= high * wide;
                    String call = size + pairs + " pairs: miss(1, 0, 0, ";
                    due.is(call + "0)", x.miss(1, 0, 0, 0), has ? 1 : FilmBench.NONE);
                    due.is(call + "1)", x.miss(1, 0, 0, 1), has ? pairs : FilmBench.NONE);
                }
            }
        }
    }

    /** One square of the later frame is 1, all others are 0: it shows that it is paired, and how many are. */
    private static void termsMissOfEverySizeAndShift() {
        due.of("of all SQUARES (y, x) of f - 1 and (y + dy, x + dx) of f that are there");
        for (int size = 0; size < 25; size++) {
            int high = 2 + size / 5;
            int wide = 2 + size % 5;
            for (int dy = -2; dy <= 2; dy++) {
                for (int dx = -2; dx <= 2; dx++) {
                    missOfEachSquare(high, wide, dx, dy);
                }
            }
        }
    }

    private static void missOfEachSquare(int high, int wide, int dx, int dy) {
        int pairs = Math.max(0, high - Math.abs(dy)) * Math.max(0, wide - Math.abs(dx));
        boolean has = 4 * pairs >= high * wide;
        Bench x = Due.bench(Due.flat(high, wide, 0), Due.flat(high, wide, 0));
        for (int place = 0; place < high * wide; place++) {
            int y = place / wide;
            int c = place % wide;
            boolean isPaired = y - dy >= 0 && y - dy < high && c - dx >= 0 && c - dx < wide;
            x.put(1, y, c, 1);
            String call = high + " by " + wide + ", 1 at " + y + ", " + c + ": miss(1, " + dx + ", " + dy + ", ";
            due.is(call + "0)", x.miss(1, dx, dy, 0), !has ? FilmBench.NONE : isPaired ? 1 : 0);
            due.is(call + "1)", x.miss(1, dx, dy, 1), !has ? FilmBench.NONE : isPaired ? pairs : 1);
            x.put(1, y, c, 0);
        }
    }

    private static void termsMissWithoutLost() {
        due.of("that are there and neither LOST");
        Bench x = Due.bench(new int[][] {{10, 10, 10}, {10, 10, 10}}, new int[][] {{11, 12, 14}, {18, 26, 42}});
        due.is("none is LOST: 1 + 2 + 4 + 8 + 16 + 32 of 6", x.miss(1, 0, 0, 0), 21);
        due.is("below", x.miss(1, 0, 0, 1), 2);
        x.put(0, 0, 0, -1);
        due.is("LOST ahead: 62 of 5", x.miss(1, 0, 0, 0), 62);
        due.is("below", x.miss(1, 0, 0, 1), 5);
        x.put(1, 1, 2, -1);
        due.is("LOST in the FRAME: 30 of 4", x.miss(1, 0, 0, 0), 15);
        due.is("below", x.miss(1, 0, 0, 1), 2);
        x.put(1, 0, 0, -1);
        due.is("LOST in both: 30 of 4", x.miss(1, 0, 0, 0), 15);
        due.is("below", x.miss(1, 0, 0, 1), 2);
        x.put(1, 0, 1, 0);
        x.put(0, 0, 1, 0);
        due.is("a GREY of 0 is not LOST: 28 of 4", x.miss(1, 0, 0, 0), 7);
        due.is("below", x.miss(1, 0, 0, 1), 1);
    }

    private static void termsMissOfRaw() {
        due.of("These are RAW");
        Bench x = Due.bench(Due.picture(0, 0), Due.picture(1, -2));
        int[] before = {x.miss(1, 0, 0, 0), x.miss(1, 0, 0, 1), x.shift(1, 0), x.shift(1, 1), x.path(1, 0), x.dust(1)};
        x.layer(3, 0, 2, 2);
        x.layer(3, 1, -1, 0);
        x.layer(1, 1, 0, 0);
        int[] after = {x.miss(1, 0, 0, 0), x.miss(1, 0, 0, 1), x.shift(1, 0), x.shift(1, 1), x.path(1, 0), x.dust(1)};
        due.same("LAYERS count nothing", after, before);
        due.is("shift(1, 0)", after[2], 1);
        due.is("shift(1, 1)", after[3], -2);
    }

    private static void miss(Bench x, int frame, int above, int below) {
        due.is("miss(" + frame + ", 0, 0, 0)", x.miss(frame, 0, 0, 0), above);
        due.is("miss(" + frame + ", 0, 0, 1)", x.miss(frame, 0, 0, 1), below);
    }

    private static void promise9Cleared() {
        due.of("what = 0 above, 1 below the line, cleared (0 / 1 if it is 0)");
        Bench x = Due.bench(Due.flat(6, 6, 0), Due.flat(6, 6, 0), Due.flat(6, 6, 63), Due.flat(6, 6, 0));
        miss(x, 1, 0, 1);
        miss(x, 2, 63, 1);
        miss(x, 3, 63, 1);
        x.put(1, 5, 5, 1);
        miss(x, 1, 1, 36);
        x.put(1, 5, 5, 35);
        miss(x, 1, 35, 36);
        x.put(1, 5, 5, 36);
        miss(x, 1, 1, 1);
        x.put(1, 5, 5, 37);
        miss(x, 1, 37, 36);
        x.put(1, 5, 5, 63);
        miss(x, 1, 7, 4);
        x.put(1, 0, 0, 63);
        miss(x, 1, 7, 2);
        // 63 * 35 + 62 of 36.
        x.put(2, 0, 0, 62);
        miss(x, 3, 2267, 36);
        Bench one = Due.lost(2, 2, 2);
        one.put(0, 1, 1, 9);
        one.put(1, 1, 1, 9);
        miss(one, 1, 0, 1);
        one.put(1, 1, 1, 8);
        miss(one, 1, 1, 1);
    }

    private static void promise9FirstAndLastFrame() {
        due.of("Its MISS for a FRAME f behind the first");
        Bench x = Due.lost(2, 2, 10);
        for (int f = 0; f < 10; f++) {
            x.row(f, 0, Due.rowOf(f * (f + 1) / 2, f * (f + 1) / 2));
        }
        for (int f = 1; f < 10; f++) {
            miss(x, f, f, 1);
        }
        due.refused("miss(0, 0, 0, 0)", x, b -> b.miss(0, 0, 0, 0), FilmBench.NUMBER);
        due.refused("miss(10, 0, 0, 0)", x, b -> b.miss(10, 0, 0, 0), FilmBench.NUMBER);
    }

    private static void promise9Refused() {
        due.of("NUMBER: there is no such FRAME, it is the first, the SHIFT is none, or another what");
        Bench x = Due.bench(Due.picture(0, 0), Due.picture(1, 1), Due.picture(2, 1));
        for (int wrong : new int[] {Due.MIN, -1, 0, 3, Due.MAX}) {
            due.refused("miss(" + wrong + ", 0, 0, 0)", x, b -> b.miss(wrong, 0, 0, 0), FilmBench.NUMBER);
        }
        for (int wrong : Due.outside(-2, 2)) {
            due.refused("miss(1, " + wrong + ", 0, 0)", x, b -> b.miss(1, wrong, 0, 0), FilmBench.NUMBER);
            due.refused("miss(2, 0, " + wrong + ", 1)", x, b -> b.miss(2, 0, wrong, 1), FilmBench.NUMBER);
            due.refused("miss(2, " + wrong + ", " + wrong + ", 1)", x, b -> b.miss(2, wrong, wrong, 1), FilmBench.NUMBER);
        }
        for (int wrong : Due.outside(0, 1)) {
            due.refused("miss(1, 0, 0, " + wrong + ")", x, b -> b.miss(1, 0, 0, wrong), FilmBench.NUMBER);
        }
        due.is("miss(1, 1, 1, 0)", x.miss(1, 1, 1, 0), 0);
        due.is("miss(2, 1, 0, 1)", x.miss(2, 1, 0, 1), 1);
    }

    private static void promise9None() {
        due.of("NONE: it has none");
        Bench x = Due.bench(Due.flat(2, 2, 9), Due.flat(2, 2, 8));
        for (int far = -2; far <= 2; far++) {
            int d = far;
            due.refused("miss(1, 2, " + d + ", 0)", x, b -> b.miss(1, 2, d, 0), FilmBench.NONE);
            due.refused("miss(1, -2, " + d + ", 1)", x, b -> b.miss(1, -2, d, 1), FilmBench.NONE);
            due.refused("miss(1, " + d + ", 2, 1)", x, b -> b.miss(1, d, 2, 1), FilmBench.NONE);
            due.refused("miss(1, " + d + ", -2, 0)", x, b -> b.miss(1, d, -2, 0), FilmBench.NONE);
        }
        // One pair is the quarter of four squares.
        due.is("miss(1, 1, -1, 0)", x.miss(1, 1, -1, 0), 1);
        due.is("miss(1, -1, 1, 1)", x.miss(1, -1, 1, 1), 1);
    }

    private static void shift(Bench x, int dx, int dy) {
        due.is("shift(1, 0)", x.shift(1, 0), dx);
        due.is("shift(1, 1)", x.shift(1, 1), dy);
    }

    private static void termsShiftLeastMiss() {
        due.of("THE SHIFT of f has the least MISS");
        // (0, 0): 3 / 2; (1, 0): 1 / 1; (-1, 0): 2 / 1. As whole quotients the first two would be alike.
        shift(Due.bench(new int[][] {{10, 9}, {-1, -1}}, new int[][] {{11, 11}, {-1, -1}}), 1, 0);
        // (0, 0): 3 / 2; (1, 0): 2 / 1; (-1, 0): 1 / 1.
        shift(Due.bench(new int[][] {{9, 10}, {-1, -1}}, new int[][] {{11, 11}, {-1, -1}}), -1, 0);
        // (0, 0): 4 / 4; (-1, -1): 0 / 1, the least though it is the farthest and of one pair.
        shift(Due.bench(new int[][] {{5, 5}, {5, 5}}, new int[][] {{5, 6}, {6, 7}}), -1, -1);
        // (0, 0): 2 / 2; (1, 0): 3 / 4, less though its sum is greater; (2, 0): 3 / 2.
        shift(Due.bench(new int[][] {{11, 11, -1}, {52, 51, -1}}, new int[][] {{-1, 12, 12}, {-1, 52, 50}}), 1, 0);
        // The last of the window: 0 / 16 against more.
        shift(Due.bench(Due.picture(0, 0), Due.picture(2, 2)), 2, 2);
        shift(Due.bench(Due.picture(0, 0), Due.picture(-2, -2)), -2, -2);
    }

    private static void termsShiftLeastSizes() {
        due.of("of several the least sum of both sizes");
        // Only these have a MISS, of one pair each: what lies at (0, 0) ahead is seen at two places.
        shift(Due.bench(new int[][] {{8, -1}, {-1, -1}}, new int[][] {{-1, 8}, {-1, 8}}), 1, 0);
        shift(Due.bench(new int[][] {{8, -1}, {-1, -1}}, new int[][] {{-1, -1}, {8, 8}}), 0, 1);
        shift(Due.bench(new int[][] {{-1, -1}, {-1, 8}}, new int[][] {{8, -1}, {8, -1}}), -1, 0);
        shift(Due.bench(new int[][] {{-1, -1}, {-1, 8}}, new int[][] {{8, 8}, {-1, -1}}), 0, -1);
        // (0, 0) and (-1, -1): the sizes count, not the numbers.
        shift(Due.bench(new int[][] {{-1, -1}, {-1, 8}}, new int[][] {{8, -1}, {-1, 8}}), 0, 0);
        // Equal quotients of unlike sums: 4 / 4, 2 / 2, 1 / 1.
        shift(Due.bench(Due.flat(2, 2, 5), Due.flat(2, 2, 6)), 0, 0);
        shift(Due.bench(Due.flat(6, 6, 0), Due.flat(6, 6, 63)), 0, 0);
        // (0, -2) has 0 / 3 and so has (1, 0), with 0 / 6: sizes 2 and 1, though -2 is less.
        Bench x = Due.bench(
                new int[][] {{0, 9, 5, 5}, {3, 1, 8, 5}, {5, 0, 9, 5}},
                new int[][] {{5, 0, 9, 5}, {9, 3, 1, 8}, {2, 5, 0, 9}});
        due.is("miss(1, 0, -2, 0)", x.miss(1, 0, -2, 0), 0);
        due.is("miss(1, 1, 0, 0)", x.miss(1, 1, 0, 0), 0);
        shift(x, 1, 0);
    }

    private static void termsShiftLeastDy() {
        due.of("then the least dy");
        shift(Due.bench(new int[][] {{8, -1}, {-1, -1}}, new int[][] {{-1, 8}, {8, -1}}), 1, 0);
        shift(Due.bench(new int[][] {{-1, 8}, {-1, -1}}, new int[][] {{8, -1}, {-1, 8}}), -1, 0);
        shift(Due.bench(new int[][] {{-1, -1}, {8, -1}}, new int[][] {{8, -1}, {-1, 8}}), 0, -1);
        shift(Due.bench(new int[][] {{-1, -1}, {-1, 8}}, new int[][] {{-1, 8}, {8, -1}}), 0, -1);
        // A whole row is seen above and below it: (0, -1) and (0, 1).
        shift(Due.bench(
                new int[][] {{-1, -1, -1}, {1, 30, 60}, {-1, -1, -1}},
                new int[][] {{1, 30, 60}, {-1, -1, -1}, {1, 30, 60}}), 0, -1);
    }

    private static void termsShiftLeastDx() {
        due.of("then the least dx");
        // A whole column is seen on both sides of it: (-1, 0) and (1, 0).
        shift(Due.bench(new int[][] {{-1, 8, -1}, {-1, 40, -1}}, new int[][] {{8, -1, 8}, {40, -1, 40}}), -1, 0);
        // (-1, -1) and (1, -1); (0, -1) has both unlike.
        shift(Due.bench(new int[][] {{-1, -1, -1, -1}, {-1, 8, 40, -1}}, new int[][] {{8, 40, 8, 40}, {-1, -1, -1, -1}}), -1, -1);
        // (-1, 1) and (1, 1).
        shift(Due.bench(new int[][] {{-1, 8, 40, -1}, {-1, -1, -1, -1}}, new int[][] {{-1, -1, -1, -1}, {8, 40, 8, 40}}), -1, 1);
        // (-2, 0) and (2, 0): the farthest of the window.
        shift(Due.bench(
                new int[][] {{-1, -1, 8, 40, -1, -1}, {-1, -1, 9, 50, -1, -1}},
                new int[][] {{8, 40, -1, -1, 8, 40}, {9, 50, -1, -1, 9, 50}}), -2, 0);
    }

    private static void termsShiftNeedsAMiss() {
        due.of("Without any it is (0, 0)");
        shift(Due.lost(2, 2, 2), 0, 0);
        shift(Due.lost(6, 6, 2), 0, 0);
        // All there ahead, nothing in the frame, and the other way about.
        shift(Due.bench(Due.flat(3, 3, 7), Due.flat(3, 3, -1)), 0, 0);
        shift(Due.bench(Due.flat(3, 3, -1), Due.flat(3, 3, 7)), 0, 0);
        // Two pairs of (1, 0) are no quarter of nine, three are; (0, 0) has none at all.
        Bench x = Due.lost(3, 3, 2);
        for (int y = 0; y < 2; y++) {
            x.put(0, y, 0, 5);
            x.put(1, y, 1, 9);
        }
        shift(x, 0, 0);
        x.put(0, 2, 0, 5);
        shift(x, 0, 0);
        x.put(1, 2, 1, 63);
        shift(x, 1, 0);
        // A column of five is seen at (-2, 0) and (2, 0), but five pairs are no quarter of 25.
        int[][] column = Due.flat(5, 5, -1);
        int[][] sides = Due.flat(5, 5, -1);
        for (int y = 0; y < 5; y++) {
            column[y][2] = 10 * y;
            sides[y][0] = 10 * y;
            sides[y][4] = 10 * y;
        }
        shift(Due.bench(column, sides), 0, 0);
        // A MISS of 0 of too few pairs is none: (2, 2) would have it, (0, 0) has 9 / 9.
        Bench few = Due.bench(Due.flat(3, 3, 20), Due.flat(3, 3, 21));
        few.put(0, 0, 0, 50);
        few.put(1, 2, 2, 50);
        due.is("miss(1, 2, 2, 0)", few.miss(1, 2, 2, 0), FilmBench.NONE);
        due.isTrue("its SHIFT is another one", few.shift(1, 0) != 2 || few.shift(1, 1) != 2);
    }

    private static void promise10EndsOfTheWindow() {
        due.of("THE SHIFT of a FRAME: what = 0 dx, 1 dy");
        for (int move = -4; move <= 4; move++) {
            Bench across = Due.bench(Due.picture(0, 0), Due.picture(move, 0));
            Bench down = Due.bench(Due.picture(0, 0), Due.picture(0, move));
            if (Math.abs(move) <= 2) {
                shift(across, move, 0);
                shift(down, 0, move);
            }
            for (int what = 0; what < 2; what++) {
                due.isTrue("dx of " + move + " is -2 to 2", Math.abs(across.shift(1, what)) <= 2);
                due.isTrue("dy of " + move + " is -2 to 2", Math.abs(down.shift(1, what)) <= 2);
            }
        }
        Bench ten = Due.drifting(new int[] {0, 1, 2, -1, -2, 0, 1, 2, -2}, new int[] {2, 1, 0, -1, -2, -2, 2, 0, 2});
        due.is("shift(1, 1)", ten.shift(1, 1), 2);
        due.is("shift(9, 0)", ten.shift(9, 0), -2);
        due.is("shift(9, 1)", ten.shift(9, 1), 2);
    }

    private static void promise10Refused() {
        due.of("NOTHING: there is no such FRAME, it is the first, or another what");
        Bench x = Due.bench(Due.picture(0, 0), Due.picture(1, 2));
        for (int wrong : new int[] {Due.MIN, -1, 0, 2, Due.MAX}) {
            due.refused("shift(" + wrong + ", 0)", x, b -> b.shift(wrong, 0), FilmBench.NOTHING);
            due.refused("shift(" + wrong + ", 1)", x, b -> b.shift(wrong, 1), FilmBench.NOTHING);
        }
        for (int wrong : Due.outside(0, 1)) {
            due.refused("shift(1, " + wrong + ")", x, b -> b.shift(1, wrong), FilmBench.NOTHING);
        }
        Bench ten = Due.lost(2, 2, 10);
        due.is("shift(9, 1)", ten.shift(9, 1), 0);
        due.refused("shift(10, 1)", ten, b -> b.shift(10, 1), FilmBench.NOTHING);
    }

    private static void promise11First() {
        due.of("the sum of THE SHIFTS of it and all ahead of it (0 of the first)");
        Bench x = Due.lost(2, 2, 1);
        due.is("drift(0, 0)", x.drift(0, 0), 0);
        due.is("drift(0, 1)", x.drift(0, 1), 0);
        Bench two = Due.bench(Due.picture(0, 0), Due.picture(-2, 1));
        due.is("drift(0, 0)", two.drift(0, 0), 0);
        due.is("drift(0, 1)", two.drift(0, 1), 0);
        due.is("drift(1, 0)", two.drift(1, 0), -2);
        due.is("drift(1, 1)", two.drift(1, 1), 1);
        two.frame();
        due.is("a FRAME without any: drift(2, 0)", two.drift(2, 0), -2);
        due.is("drift(2, 1)", two.drift(2, 1), 1);
    }

    private static void promise11Farthest() {
        due.of("the sum of THE SHIFTS of it and all ahead of it");
        int[] twos = {2, 2, 2, 2, 2, 2, 2, 2, 2};
        int[] less = {-2, -2, -2, -2, -2, -2, -2, -2, -2};
        Bench x = Due.drifting(twos, less);
        Bench z = Due.drifting(less, twos);
        for (int f = 0; f < 10; f++) {
            due.is("drift(" + f + ", 0)", x.drift(f, 0), 2 * f);
            due.is("drift(" + f + ", 1)", x.drift(f, 1), -2 * f);
            due.is("the other way: drift(" + f + ", 0)", z.drift(f, 0), -2 * f);
            due.is("the other way: drift(" + f + ", 1)", z.drift(f, 1), 2 * f);
            due.is("a steady one is its path: path(" + f + ", 0)", x.path(f, 0), 2 * f);
            due.is("a steady one is its path: path(" + f + ", 1)", x.path(f, 1), -2 * f);
        }
    }

    private static void promise11Refused() {
        due.of("drift: NOTHING: there is no such FRAME, axis");
        Bench x = Due.bench(Due.picture(0, 0), Due.picture(1, 2));
        for (int wrong : Due.outside(0, 1)) {
            due.refused("drift(" + wrong + ", 0)", x, b -> b.drift(wrong, 0), FilmBench.NOTHING);
            due.refused("drift(" + wrong + ", 1)", x, b -> b.drift(wrong, 1), FilmBench.NOTHING);
            due.refused("drift(0, " + wrong + ")", x, b -> b.drift(0, wrong), FilmBench.NOTHING);
            due.refused("drift(1, " + wrong + ")", x, b -> b.drift(1, wrong), FilmBench.NOTHING);
        }
        due.refused("drift(10, 0) of ten", Due.lost(2, 2, 10), b -> b.drift(10, 0), FilmBench.NOTHING);
    }

    /** THE PATH along x of a bench, and its BENDS and STRAYS. */
    private static void path(Bench x, int[] want, int bends, int strays) {
        for (int f = 0; f < want.length; f++) {
            due.is("path(" + f + ", 0)", x.path(f, 0), want[f]);
        }
        due.is("bends(0, 0)", x.bends(0, 0), bends);
        due.is("bends(0, 1)", x.bends(0, 1), strays);
    }

    /** A bench with this S whose frames drift along x by these shifts. */
    private static Bench along(int s, int... shifts) {
        Bench x = Due.drifting(shifts, new int[shifts.length]);
        x.rule(0, s);
        return x;
    }

    private static void promise12FewFrames() {
        due.of("of all f with both: without three FRAMES there are no BENDS");
        for (int s = 0; s <= 3; s++) {
            path(along(s), new int[] {0}, 0, 0);
            path(along(s, 2), new int[] {0, 2}, 0, 0);
            path(along(s, -2), new int[] {0, -2}, 0, 0);
        }
        path(along(0, 2, -2), new int[] {0, 2, 0}, 4, 0);
        path(along(1, 2, -2), new int[] {1, 1, 1}, 0, 3);
        path(along(1, -2, 2), new int[] {-1, -1, -1}, 0, 3);
        Bench down = Due.drifting(new int[] {0, 0}, new int[] {2, -2});
        due.is("path(1, 1)", down.path(1, 1), 1);
        due.is("path(1, 0)", down.path(1, 0), 0);
        due.is("bends(1, 1)", down.bends(1, 1), 3);
        due.is("bends(0, 1)", down.bends(0, 1), 0);
    }

    private static void promise12LeastAndGreatestS() {
        due.of("off from its DRIFT by S at most (0 to 3; 1 at first)");
        int[] turns = {2, -2, 2, -2, 2, -2, 2, -2, 2};
        path(along(0, turns), new int[] {0, 2, 0, 2, 0, 2, 0, 2, 0, 2}, 32, 0);
        path(Due.drifting(turns, turns), new int[] {1, 1, 1, 1, 1, 1, 1, 1, 1, 1}, 0, 10);
        // Off by 3 at the first FRAME, at the last one.
        path(along(3, 2, 0, -2, -2), new int[] {3, 2, 1, 0, -1}, 0, 5);
        path(along(3, -2, 0, 2, 2), new int[] {-3, -2, -1, 0, 1}, 0, 5);
        path(along(3, 2, 2, 0, -2), new int[] {1, 2, 3, 4, 5}, 0, 5);
        path(along(3, -2, -2, 0, 2), new int[] {-1, -2, -3, -4, -5}, 0, 5);
        // Six FRAMES with all of the room that S 3 gives, off by 3 inside.
        path(along(3, 2, 2, 2, -2, -2), new int[] {0, 1, 2, 3, 4, 5}, 0, 9);
        path(along(3, -2, -2, 2, 2, 1), new int[] {-2, -2, -2, -2, -2, -2}, 0, 9);
        path(along(3, 2, -2, -1, 0, 0), new int[] {-1, -1, -1, -1, -1, -1}, 0, 5);
        path(along(1, 2, 0, -2, -2), new int[] {1, 1, 1, 0, -1}, 1, 4);
        path(along(2, 2, 0, -2, -2), new int[] {0, 0, 0, 0, 0}, 0, 6);
        path(along(2, 2, 2, 0, -2), new int[] {0, 1, 2, 3, 4}, 0, 6);
    }

    private static void promise12OrderOfRules() {
        due.of("THE PATH has the fewest BENDS, of several the fewest STRAYS");
        // Drifts 0 2 0. 0 1 0 strays once but bends; of those without bends 0 0 0 strays least.
        path(along(2, 2, -2), new int[] {0, 0, 0}, 0, 2);
        path(along(3, 2, -2), new int[] {0, 0, 0}, 0, 2);
        path(along(2, -2, 2), new int[] {0, 0, 0}, 0, 2);
        // Drifts 0 1 0: off at the middle one alone; drifts 0 1 1 1 and 0 -1 -1 -1: off at the first alone.
        path(along(1, 1, -1), new int[] {0, 0, 0}, 0, 1);
        path(along(1, -1, 1), new int[] {0, 0, 0}, 0, 1);
        path(along(1, 1, 0, 0), new int[] {1, 1, 1, 1}, 0, 1);
        path(along(1, -1, 0, 0), new int[] {-1, -1, -1, -1}, 0, 1);
        // Drifts 0 0 0 1: 0 0 0 0 strays once; the drifts themselves bend.
        path(along(1, 0, 0, 1), new int[] {0, 0, 0, 0}, 0, 1);
        path(along(0, 0, 0, 1), new int[] {0, 0, 0, 1}, 1, 0);
    }

    private static void promise12LesserAtFirstUnlike() {
        due.of("of several the lesser p at the first FRAME at which they are unlike");
        // Unlike at the first FRAME: 0 1 2 and 1 1 1; -1 -1 -1 and 0 -1 -2.
        path(along(1, 1, 0), new int[] {0, 1, 2}, 0, 1);
        path(along(1, -1, 0), new int[] {-1, -1, -1}, 0, 1);
        // Unlike at FRAME 2: -1 -1 -1 0 and -1 -1 0 1; 1 1 0 -1 and 1 1 1 0.
        path(along(1, -2, 1, 2), new int[] {-1, -1, -1, 0}, 1, 3);
        path(along(1, 2, -1, -2), new int[] {1, 1, 0, -1}, 1, 3);
        // Unlike at FRAME 3: -1 -2 -3 -4 -4 and -1 -2 -3 -3 -3.
        path(along(1, -2, -2, 0, 1), new int[] {-1, -2, -3, -4, -4}, 1, 3);
        path(along(1, -2, 1, 0, -2), new int[] {-1, -1, -1, -2, -3}, 1, 3);
        Bench down = Due.drifting(new int[] {0, 0, 0}, new int[] {-2, 1, 2});
        int[] want = {-1, -1, -1, 0};
        for (int f = 0; f < 4; f++) {
            due.is("path(" + f + ", 1)", down.path(f, 1), want[f]);
        }
    }

    private static void promise12Refused() {
        due.of("path: NOTHING: there is no such FRAME, axis");
        Bench x = Due.bench(Due.picture(0, 0), Due.picture(1, 2), Due.picture(0, 0));
        for (int wrong : Due.outside(0, 2)) {
            due.refused("path(" + wrong + ", 0)", x, b -> b.path(wrong, 0), FilmBench.NOTHING);
            due.refused("path(" + wrong + ", 1)", x, b -> b.path(wrong, 1), FilmBench.NOTHING);
        }
        for (int wrong : Due.outside(0, 1)) {
            due.refused("path(0, " + wrong + ")", x, b -> b.path(0, wrong), FilmBench.NOTHING);
            due.refused("path(2, " + wrong + ")", x, b -> b.path(2, wrong), FilmBench.NOTHING);
        }
        due.refused("path(10, 0) of ten", Due.lost(2, 2, 10), b -> b.path(10, 0), FilmBench.NOTHING);
    }

    private static void promise13NoneToTenFrames() {
        due.of("Of THE PATH along an axis: what = 0 BENDS, 1 STRAYS");
        int[] turns = {2, -2, 2, -2, 2, -2, 2, -2, 2};
        for (int frames = 0; frames <= 10; frames++) {
            Bench x = new Bench();
            x.reel(6, 6);
            for (int f = 0; f < frames; f++) {
                Due.addFrame(x, Due.picture(f % 2 * turns[0], f % 2 * -turns[0]));
            }
            x.rule(0, 0);
            for (int axis = 0; axis < 2; axis++) {
                String call = frames + " FRAMES: bends(" + axis + ", ";
                due.is(call + "0)", x.bends(axis, 0), 4 * Math.max(0, frames - 2));
                due.is(call + "1)", x.bends(axis, 1), 0);
            }
            x.rule(0, 1);
            for (int axis = 0; axis < 2; axis++) {
                String call = frames + " FRAMES, S 1: bends(" + axis + ", ";
                due.is(call + "0)", x.bends(axis, 0), 0);
                due.is(call + "1)", x.bends(axis, 1), frames < 3 ? 0 : frames);
            }
        }
    }

    private static void promise13Refused() {
        due.of("NUMBER: no such axis, another what");
        Bench x = Due.bench(Due.picture(0, 0), Due.picture(1, 2), Due.picture(0, 0));
        for (int wrong : Due.outside(0, 1)) {
            for (int right = 0; right < 2; right++) {
                int r = right;
                due.refused("bends(" + wrong + ", " + r + ")", x, b -> b.bends(wrong, r), FilmBench.NUMBER);
                due.refused("bends(" + r + ", " + wrong + ")", x, b -> b.bends(r, wrong), FilmBench.NUMBER);
            }
            due.refused("bends(" + wrong + ", " + wrong + ")", x, b -> b.bends(wrong, wrong), FilmBench.NUMBER);
            due.refused("without FRAMES: bends(" + wrong + ", 0)", new Bench(), b -> b.bends(wrong, 0), FilmBench.NUMBER);
        }
    }
}
