/** Boundary cases of the raw frames: the first part of Terms 1, and promises 2 to 8. */
public final class EdgesRawTest {
    private static final Due due = new Due();
    private static final int[] LEAST = {0, 0, 1};
    private static final int[] FIRST = {1, 2, 5};
    private static final int[] MOST = {3, 10, 63};

    public static void main(String[] args) {
        termsFramesAreTenAtMost();
        termsSquaresOfEverySize();
        termsGreysOrLost();
        promise2Sizes();
        promise2WithoutFramesAndLayers();
        promise2OldGreysAreGone();
        promise2Refused();
        promise3AllLost();
        promise3Full();
        promise4LeastAndMostGrey();
        promise4LostStaysLost();
        promise4FirstAndLastFrame();
        promise4IsLikeRaw();
        promise4Refused();
        promise5WhatItWas();
        promise5Refused();
        promise6Bits();
        promise6LeastAndGreatestLong();
        promise6HowManyAreNotLost();
        promise6Refused();
        promise7Corners();
        promise7Refused();
        promise8Bounds();
        promise8Refused();
        promise8RulesAreApart();
        due.end();
    }

    private static void termsFramesAreTenAtMost() {
        due.of("FRAMES, numbered from 0 as they come, 10 at most");
        for (int mix = 0; mix < 3; mix++) {
            Bench x = new Bench();
            for (int f = 0; f < 10; f++) {
                due.is("many(2)", x.many(2), f);
                boolean isNew = f == 0 || mix == 0 || mix == 2 && f % 2 == 0;
                due.is("the FRAME's number", isNew ? x.frame() : x.again(f - 1, 1), f);
            }
            due.is("many(2)", x.many(2), 10);
            due.is("raw(9, 1, 1)", x.raw(9, 1, 1), -1);
            due.refused("raw(10, 1, 1)", x, b -> b.raw(10, 1, 1), FilmBench.NOTHING);
            due.refused("frame()", x, Bench::frame, FilmBench.FULL);
            due.refused("again(9, 0)", x, b -> b.again(9, 0), FilmBench.FULL);
        }
    }

    private static void termsSquaresOfEverySize() {
        due.of("each of HIGH rows and WIDE columns (both 2 to 6) of SQUARES (row y, column x)");
        for (int high = 2; high <= 6; high++) {
            for (int wide = 2; wide <= 6; wide++) {
                Bench x = Due.lost(high, wide, 1);
                String size = high + " by " + wide + ": ";
                for (int y = 0; y < high; y++) {
                    for (int c = 0; c < wide; c++) {
                        due.is(size + "put", x.put(0, y, c, y * wide + c), -1);
                    }
                }
                for (int y = -1; y <= high; y++) {
                    for (int c = -1; c <= wide; c++) {
                        boolean isThere = y >= 0 && y < high && c >= 0 && c < wide;
                        int want = isThere ? y * wide + c : FilmBench.NOTHING;
                        due.is(size + "raw(0, " + y + ", " + c + ")", x.raw(0, y, c), want);
                        due.is(size + "made(0, " + y + ", " + c + ")", x.made(0, y, c), want);
                    }
                }
                due.is(size + "many(0)", x.many(0), high);
                due.is(size + "many(1)", x.many(1), wide);
            }
        }
    }

    private static void termsGreysOrLost() {
        due.of("each with a GREY (0 to 63), or LOST (-1)");
        Bench x = Due.lost(2, 2, 1);
        int was = -1;
        for (int grey = -1; grey <= 63; grey++) {
            due.is("put(0, 1, 0, " + grey + ")", x.put(0, 1, 0, grey), was);
            due.is("raw(0, 1, 0)", x.raw(0, 1, 0), grey);
            was = grey;
        }
        due.refused("put(0, 1, 0, 64)", x, b -> b.put(0, 1, 0, 64), FilmBench.NOTHING);
        due.refused("put(0, 1, 0, -2)", x, b -> b.put(0, 1, 0, -2), FilmBench.NOTHING);
    }

    private static void promise2Sizes() {
        due.of("how many SQUARES a FRAME has");
        Bench x = new Bench();
        due.is("reel(2, 2)", x.reel(2, 2), 4);
        due.is("reel(2, 6)", x.reel(2, 6), 12);
        due.is("many(0)", x.many(0), 2);
        due.is("many(1)", x.many(1), 6);
        due.is("reel(6, 2)", x.reel(6, 2), 12);
        due.is("many(0)", x.many(0), 6);
        due.is("many(1)", x.many(1), 2);
        due.is("reel(6, 6)", x.reel(6, 6), 36);
        due.is("reel(5, 6)", x.reel(5, 6), 30);
        due.is("reel(3, 2)", x.reel(3, 2), 6);
    }

    private static void promise2WithoutFramesAndLayers() {
        due.of("A new REEL, without FRAMES and LAYERS");
        for (int wide = 2; wide <= 3; wide++) {
            Bench x = Due.lost(2, 2, 10);
            for (int n = 0; n < 12; n++) {
                x.layer(2, 9, 0, 0);
            }
            due.is("reel(2, " + wide + ")", x.reel(2, wide), 2 * wide);
            due.is("many(2)", x.many(2), 0);
            due.is("many(3)", x.many(3), 0);
            due.is("many(4)", x.many(4), 0);
            due.is("many(5)", x.many(5), 0);
            due.refused("raw(0, 0, 0)", x, b -> b.raw(0, 0, 0), FilmBench.NOTHING);
            due.refused("of(0, 0)", x, b -> b.of(0, 0), FilmBench.NOTHING);
            due.refused("peel()", x, Bench::peel, FilmBench.NONE);
            due.refused("layer(2, 0, 0, 0)", x, b -> b.layer(2, 0, 0, 0), FilmBench.NUMBER);
            due.is("frame() begins from 0", x.frame(), 0);
            due.is("layer begins from 0", x.layer(2, 0, 0, 0), 0);
        }
        Bench x = new Bench();
        due.is("reel of a new object", x.reel(2, 2), 4);
        due.is("and once more", x.reel(2, 2), 4);
    }

    private static void promise2OldGreysAreGone() {
        due.of("A FRAME comes, all LOST");
        Bench x = Due.bench(Due.flat(6, 6, 40), Due.flat(6, 6, 50));
        x.reel(2, 2);
        x.frame();
        due.raw(x, 0, Due.flat(2, 2, -1));
        x.reel(6, 6);
        x.frame();
        x.frame();
        due.raw(x, 0, Due.flat(6, 6, -1));
        due.raw(x, 1, Due.flat(6, 6, -1));
        due.is("many(5)", x.many(5), 72);
    }

    private static void promise2Refused() {
        due.of("NUMBER: high or wide isn't 2 to 6");
        Bench x = Due.bench(new int[][] {{1, 2, 3}, {4, -1, 6}});
        x.layer(3, 0, 1, 0);
        x.keep();
        x.put(0, 0, 0, 9);
        for (int wrong : new int[] {Due.MIN, -2, -1, 0, 1, 7, 8, Due.MAX}) {
            for (int right : new int[] {2, 6}) {
                due.refused("reel(" + wrong + ", " + right + ")", x, b -> b.reel(wrong, right), FilmBench.NUMBER);
                due.refused("reel(" + right + ", " + wrong + ")", x, b -> b.reel(right, wrong), FilmBench.NUMBER);
            }
            due.refused("reel(" + wrong + ", " + wrong + ")", x, b -> b.reel(wrong, wrong), FilmBench.NUMBER);
        }
    }

    private static void promise3AllLost() {
        due.of("A FRAME comes, all LOST: its number");
        for (int f = 1; f < 10; f++) {
            Bench x = Due.bench(Due.flat(2, 3, 7));
            for (int g = 1; g < f; g++) {
                x.again(0, 1);
            }
            due.is("its number", x.frame(), f);
            due.raw(x, f, Due.flat(2, 3, -1));
            due.is("the others stay: many(5)", x.many(5), 6);
        }
        Bench again = Due.bench(Due.flat(2, 2, 1));
        again.keep();
        Due.addFrame(again, Due.flat(2, 2, 33));
        again.back();
        due.is("frame() after back()", again.frame(), 1);
        due.raw(again, 1, Due.flat(2, 2, -1));
    }

    private static void promise3Full() {
        due.of("frame: FULL");
        Bench x = Due.lost(2, 2, 9);
        x.keep();
        due.is("frame() the tenth", x.frame(), 9);
        due.refused("frame() the eleventh", x, Bench::frame, FilmBench.FULL);
        due.refused("frame() the eleventh again", x, Bench::frame, FilmBench.FULL);
        x.back();
        due.is("frame() with nine", x.frame(), 9);
        due.refused("frame() with ten", x, Bench::frame, FilmBench.FULL);
        x.reel(6, 6);
        due.is("frame() of a new REEL", x.frame(), 0);
    }

    private static void promise4LeastAndMostGrey() {
        due.of("with c more in each GREY (0 at least, 63 at most)");
        int[][] changes = {
            {0, 0, 1, 62, 63, 31}, {1, 1, 2, 63, 63, 32}, {-1, 0, 0, 61, 62, 30}, {2, 2, 3, 63, 63, 33}, {-2, 0, 0, 60, 61, 29},
            {62, 62, 63, 63, 63, 63}, {-62, 0, 0, 0, 1, 0}, {63, 63, 63, 63, 63, 63}, {-63, 0, 0, 0, 0, 0}};
        for (int[] change : changes) {
            Bench x = Due.bench(new int[][] {{0, 1, 62}, {63, 31, -1}});
            due.is("again(0, " + change[0] + ")", x.again(0, change[0]), 1);
            due.raw(x, 1, new int[][] {{change[1], change[2], change[3]}, {change[4], change[5], -1}});
            due.raw(x, 0, new int[][] {{0, 1, 62}, {63, 31, -1}});
        }
    }

    private static void promise4LostStaysLost() {
        due.of("with c more in each GREY: LOST has none");
        for (int c : new int[] {-63, -1, 0, 1, 2, 63}) {
            Bench x = Due.lost(2, 2, 1);
            due.is("again(0, " + c + ")", x.again(0, c), 1);
            due.raw(x, 1, Due.flat(2, 2, -1));
        }
    }

    private static void promise4FirstAndLastFrame() {
        due.of("A FRAME comes that is like another one (RAW)");
        Bench x = new Bench();
        for (int f = 0; f < 9; f++) {
            Due.addFrame(x, new int[][] {{f, f + 10}, {-1, 63 - f}});
        }
        x.keep();
        for (int f = 0; f < 9; f++) {
            due.is("again(" + f + ", 0)", x.again(f, 0), 9);
            due.raw(x, 9, new int[][] {{f, f + 10}, {-1, 63 - f}});
            x.back();
        }
        due.refused("again(9, 0)", x, b -> b.again(9, 0), FilmBench.NUMBER);
        x.again(8, 1);
        x.put(9, 0, 0, 55);
        due.is("the one that it is like stays", x.raw(8, 0, 0), 8);
        x.put(8, 0, 1, 44);
        due.is("and it stays too", x.raw(9, 0, 1), 19);
    }

    private static void promise4IsLikeRaw() {
        due.of("like another one (RAW)");
        Bench x = Due.bench(new int[][] {{10, -1}, {20, 30}}, new int[][] {{1, 2}, {3, 4}});
        x.layer(2, 0, 0, 0);
        x.layer(3, 0, 1, 0);
        due.is("again(0, 1)", x.again(0, 1), 2);
        due.raw(x, 2, new int[][] {{11, -1}, {21, 31}});
        due.made(x, 2, new int[][] {{11, -1}, {21, 31}});
        due.is("no LAYER comes with it", x.many(3), 2);
    }

    private static void promise4Refused() {
        due.of("NUMBER: there is none such, or c isn't -63 to 63; FULL");
        Bench x = Due.bench(new int[][] {{5, -1}, {0, 63}}, new int[][] {{6, 7}, {8, 9}});
        for (int wrong : Due.outside(0, 1)) {
            due.refused("again(" + wrong + ", 0)", x, b -> b.again(wrong, 0), FilmBench.NUMBER);
        }
        for (int wrong : Due.outside(-63, 63)) {
            due.refused("again(1, " + wrong + ")", x, b -> b.again(1, wrong), FilmBench.NUMBER);
        }
        while (x.many(2) < 10) {
            x.again(0, 0);
        }
        due.refused("again(0, 0)", x, b -> b.again(0, 0), FilmBench.FULL);
        due.refused("again(9, -63)", x, b -> b.again(9, -63), FilmBench.FULL);
        for (int wrong : Due.outside(0, 9)) {
            due.refused("again(" + wrong + ", 0)", x, b -> b.again(wrong, 0), FilmBench.NUMBER);
        }
        for (int wrong : Due.outside(-63, 63)) {
            due.refused("again(9, " + wrong + ")", x, b -> b.again(9, wrong), FilmBench.NUMBER);
        }
    }

    private static void promise5WhatItWas() {
        due.of("A SQUARE (RAW) becomes grey: what it was");
        Bench x = Due.lost(6, 6, 10);
        for (int frame : new int[] {0, 9}) {
            for (int corner = 0; corner < 4; corner++) {
                int y = corner / 2 * 5;
                int c = corner % 2 * 5;
                due.is("LOST to 63", x.put(frame, y, c, 63), -1);
                due.is("63 to 0", x.put(frame, y, c, 0), 63);
                due.is("0 to 0", x.put(frame, y, c, 0), 0);
                due.is("0 to LOST", x.put(frame, y, c, -1), 0);
                due.is("LOST to LOST", x.put(frame, y, c, -1), -1);
                due.is("LOST to " + corner, x.put(frame, y, c, corner), -1);
            }
        }
        due.is("no other SQUARE: many(5)", x.many(5), 352);
        x.layer(3, 9, 1, 1);
        due.is("RAW, not MADE", x.put(9, 0, 0, 50), 0);
        due.is("put under a LAYER", x.raw(9, 0, 0), 50);
    }

    private static void promise5Refused() {
        due.of("NOTHING: there is no such FRAME, SQUARE, or grey isn't -1 to 63");
        Bench x = Due.bench(new int[][] {{1, 2, 3}, {4, -1, 6}}, new int[][] {{7, 8, 9}, {10, 11, 12}});
        x.keep();
        for (int wrong : Due.outside(0, 1)) {
            due.refused("put(" + wrong + ", 0, 0, 5)", x, b -> b.put(wrong, 0, 0, 5), FilmBench.NOTHING);
            due.refused("put(1, " + wrong + ", 0, 5)", x, b -> b.put(1, wrong, 0, 5), FilmBench.NOTHING);
        }
        for (int wrong : Due.outside(0, 2)) {
            due.refused("put(0, 0, " + wrong + ", 5)", x, b -> b.put(0, 0, wrong, 5), FilmBench.NOTHING);
            due.refused("put(0, 1, " + wrong + ", 5)", x, b -> b.put(0, 1, wrong, 5), FilmBench.NOTHING);
        }
        for (int wrong : Due.outside(-1, 63)) {
            due.refused("put(1, 1, 2, " + wrong + ")", x, b -> b.put(1, 1, 2, wrong), FilmBench.NOTHING);
        }
        due.refused("put(0, 2, 2, 64)", x, b -> b.put(0, 2, 2, 64), FilmBench.NOTHING);
    }

    private static void promise6Bits() {
        due.of("seven bits a SQUARE, the lowest ones of column 0: GREYS; 64 and above: LOST");
        for (int wide = 2; wide <= 6; wide++) {
            for (int column = 0; column < wide; column++) {
                for (int bits : new int[] {0, 1, 62, 63, 64, 65, 126, 127}) {
                    Bench x = Due.lost(2, wide, 1);
                    String call = wide + " wide: row(0, 1, " + bits + " << " + 7 * column + ")";
                    due.is(call, x.row(0, 1, (long) bits << (7 * column)), bits < 64 ? wide : wide - 1);
                    for (int c = 0; c < wide; c++) {
                        int want = c != column ? 0 : bits < 64 ? bits : -1;
                        due.is(call + ": raw(0, 1, " + c + ")", x.raw(0, 1, c), want);
                        due.is(call + ": raw(0, 0, " + c + ")", x.raw(0, 0, c), -1);
                    }
                }
            }
        }
    }

    private static void promise6LeastAndGreatestLong() {
        due.of("A row (RAW) is told by a number");
        for (int wide = 2; wide <= 6; wide++) {
            Bench x = Due.bench(Due.flat(2, wide, 7));
            due.is("row(0, 0, Long.MAX)", x.row(0, 0, Long.MAX_VALUE), 0);
            due.is("its last SQUARE", x.raw(0, 0, wide - 1), -1);
            due.is("row(0, 0, Long.MIN)", x.row(0, 0, Long.MIN_VALUE), wide);
            due.is("its last SQUARE", x.raw(0, 0, wide - 1), 0);
            due.is("row(0, 0, -1)", x.row(0, 0, -1L), 0);
            due.is("its first SQUARE", x.raw(0, 0, 0), -1);
            due.is("row(0, 0, 0)", x.row(0, 0, 0L), wide);
            due.is("its first SQUARE", x.raw(0, 0, 0), 0);
            due.is("bits above the last column", x.row(0, 0, -1L << (7 * wide)), wide);
            due.is("the last column's bits", x.row(0, 0, 127L << (7 * wide - 7)), wide - 1);
            due.is("the other row stays", x.raw(0, 1, wide - 1), 7);
        }
    }

    private static void promise6HowManyAreNotLost() {
        due.of("how many aren't LOST");
        for (int mask = 0; mask < 64; mask++) {
            Bench x = Due.lost(6, 6, 10);
            int[] line = new int[6];
            for (int c = 0; c < 6; c++) {
                line[c] = (mask >> c & 1) == 1 ? c * 12 : -1;
            }
            due.is("row of " + mask, x.row(9, 5, Due.rowOf(line)), Integer.bitCount(mask));
            for (int c = 0; c < 6; c++) {
                due.is("raw(9, 5, " + c + ")", x.raw(9, 5, c), line[c]);
            }
            due.is("many(5)", x.many(5), 360 - Integer.bitCount(mask));
        }
    }

    private static void promise6Refused() {
        due.of("NUMBER: there is no such FRAME, row");
        Bench x = Due.bench(new int[][] {{1, 2}, {3, -1}, {5, 6}});
        for (int wrong : Due.outside(0, 0)) {
            due.refused("row(" + wrong + ", 0, 0)", x, b -> b.row(wrong, 0, 0L), FilmBench.NUMBER);
            due.refused("row(" + wrong + ", 2, -1)", x, b -> b.row(wrong, 2, -1L), FilmBench.NUMBER);
        }
        for (int wrong : Due.outside(0, 2)) {
            due.refused("row(0, " + wrong + ", 0)", x, b -> b.row(0, wrong, 0L), FilmBench.NUMBER);
            due.refused("row(0, " + wrong + ", MAX)", x, b -> b.row(0, wrong, Long.MAX_VALUE), FilmBench.NUMBER);
            due.refused("row(0, " + wrong + ", MIN)", x, b -> b.row(0, wrong, Long.MIN_VALUE), FilmBench.NUMBER);
        }
        due.is("the last row is one", x.row(0, 2, 0L), 2);
    }

    private static void promise7Corners() {
        due.of("A SQUARE (RAW)");
        Bench x = Due.lost(2, 6, 10);
        x.put(0, 0, 0, 0);
        x.put(0, 1, 5, 63);
        x.put(9, 0, 5, 1);
        x.put(9, 1, 0, 62);
        x.layer(3, 9, 3, 3);
        due.is("raw(0, 0, 0)", x.raw(0, 0, 0), 0);
        due.is("raw(0, 1, 5)", x.raw(0, 1, 5), 63);
        due.is("raw(0, 0, 5)", x.raw(0, 0, 5), -1);
        due.is("raw(9, 0, 5)", x.raw(9, 0, 5), 1);
        due.is("raw(9, 1, 0)", x.raw(9, 1, 0), 62);
        due.is("raw(8, 1, 0)", x.raw(8, 1, 0), -1);
    }

    private static void promise7Refused() {
        due.of("NOTHING: there is no such FRAME, SQUARE");
        Bench x = Due.bench(new int[][] {{1, 2, 3}, {4, -1, 6}});
        for (int wrong : Due.outside(0, 0)) {
            due.refused("raw(" + wrong + ", 0, 0)", x, b -> b.raw(wrong, 0, 0), FilmBench.NOTHING);
        }
        for (int wrong : Due.outside(0, 1)) {
            due.refused("raw(0, " + wrong + ", 0)", x, b -> b.raw(0, wrong, 0), FilmBench.NOTHING);
        }
        for (int wrong : Due.outside(0, 2)) {
            due.refused("raw(0, 0, " + wrong + ")", x, b -> b.raw(0, 0, wrong), FilmBench.NOTHING);
            due.refused("raw(0, 1, " + wrong + ")", x, b -> b.raw(0, 1, wrong), FilmBench.NOTHING);
        }
    }

    private static void promise8Bounds() {
        due.of("S (0 to 3; 1 at first), D (0 to 10; 2 at first), E (1 to 63; 5 at first): what it was");
        for (int what = 0; what < 3; what++) {
            Bench x = new Bench();
            String call = "rule(" + what + ", ";
            due.is("many at first", x.many(6 + what), FIRST[what]);
            due.is(call + LEAST[what] + ")", x.rule(what, LEAST[what]), FIRST[what]);
            due.is("many", x.many(6 + what), LEAST[what]);
            due.is(call + MOST[what] + ")", x.rule(what, MOST[what]), LEAST[what]);
            due.is("many", x.many(6 + what), MOST[what]);
            due.is(call + MOST[what] + ")", x.rule(what, MOST[what]), MOST[what]);
            due.is(call + LEAST[what] + ")", x.rule(what, LEAST[what]), MOST[what]);
            due.is("many", x.many(6 + what), LEAST[what]);
        }
    }

    private static void promise8Refused() {
        due.of("NUMBER: another what, or v isn't as told");
        Bench x = Due.bench(Due.picture(0, 0), Due.picture(2, 0), Due.picture(0, 0));
        x.layer(0, 1, 0, 0);
        for (int what = 0; what < 3; what++) {
            int w = what;
            for (int wrong : Due.outside(LEAST[what], MOST[what])) {
                due.refused("rule(" + w + ", " + wrong + ")", x, b -> b.rule(w, wrong), FilmBench.NUMBER);
            }
        }
        for (int wrong : Due.outside(0, 2)) {
            for (int v : new int[] {0, 1, 3}) {
                due.refused("rule(" + wrong + ", " + v + ")", x, b -> b.rule(wrong, v), FilmBench.NUMBER);
            }
        }
        due.refused("rule(3, 64)", x, b -> b.rule(3, 64), FilmBench.NUMBER);
    }

    private static void promise8RulesAreApart() {
        due.of("What = 0 S, 1 D, 2 E is v");
        Bench x = new Bench();
        for (int what = 0; what < 3; what++) {
            x.rule(what, MOST[what]);
            for (int other = 0; other < 3; other++) {
                due.is("many(" + (6 + other) + ")", x.many(6 + other), other <= what ? MOST[other] : FIRST[other]);
            }
        }
        x.reel(6, 6);
        x.keep();
        x.rule(0, 0);
        x.back();
        due.is("S is no part of THE REEL: many(6)", x.many(6), 0);
        due.is("nor D: many(7)", x.many(7), 10);
        due.is("nor E: many(8)", x.many(8), 63);
    }
}
