/** Boundary cases of what the four kinds of layers do (Terms 2), and of promise 14. */
public final class EdgesKindsTest {
    private static final Due due = new Due();

    public static void main(String[] args) {
        cleanNeighboursApart();
        cleanOwnApart();
        cleanFromEach();
        cleanBecomesWhatItWas();
        cleanHalfTheSum();
        cleanWithLost();
        cleanAtTheEnds();
        cleanRulesAtFirst();
        cleanWorksOnWhatIsLeft();
        promise14CountsRaw();
        promise14Refused();
        matchWithoutGreys();
        matchOneAndMany();
        matchRanks();
        matchGreatestPlace();
        matchAnyFrame();
        matchRawAgainstLeft();
        fillAheadThenBehind();
        fillAtTheEnds();
        fillNextFramesAlone();
        fillWorksOnWhatIsLeft();
        moveEverySizeAndWay();
        moveLosesTheEdges();
        moveNothing();
        due.end();
    }

    /** Three frames that are there at one square alone, which is dust or not, and becomes what is told. */
    private static void clean(int d, int e, int ahead, int own, int behind, int becomes) {
        Bench x = Due.lost(2, 2, 3);
        x.rule(1, d);
        x.rule(2, e);
        int[] greys = {ahead, own, behind};
        for (int f = 0; f < 3; f++) {
            x.put(f, 1, 1, greys[f]);
        }
        x.layer(0, 1, 0, 0);
        String told = "D " + d + ", E " + e + ", " + ahead + " " + own + " " + behind + ": ";
        boolean isDust = becomes != own;
        due.is(told + "dust(1)", x.dust(1), isDust ? 1 : 0);
        due.is(told + "made(1, 1, 1)", x.made(1, 1, 1), becomes);
        due.is(told + "changed(0)", x.changed(0), isDust ? 1 : 0);
        due.is(told + "made(1, 0, 0)", x.made(1, 0, 0), -1);
        due.is(told + "raw(1, 1, 1)", x.raw(1, 1, 1), own);
    }

    private static void cleanNeighboursApart() {
        due.of("their GREYS are D apart at most (0 to 10; 2 at first)");
        clean(0, 5, 20, 40, 20, 20);
        clean(0, 5, 20, 40, 21, 40);
        clean(0, 5, 21, 40, 20, 40);
        clean(1, 5, 20, 40, 21, 20);
        clean(1, 5, 20, 40, 22, 40);
        clean(2, 5, 20, 40, 22, 21);
        clean(2, 5, 22, 40, 20, 21);
        clean(2, 5, 20, 40, 23, 40);
        clean(2, 5, 23, 40, 20, 40);
        clean(10, 5, 20, 40, 30, 25);
        clean(10, 5, 30, 40, 20, 25);
        clean(10, 5, 20, 40, 31, 40);
        clean(10, 5, 31, 40, 20, 40);
        clean(10, 5, 0, 40, 63, 40);
    }

    private static void cleanOwnApart() {
        due.of("its own one is more than E (1 to 63; 5 at first) apart from each");
        clean(2, 1, 20, 22, 20, 20);
        clean(2, 1, 20, 21, 20, 21);
        clean(2, 1, 20, 20, 20, 20);
        clean(2, 1, 20, 19, 20, 19);
        clean(2, 1, 20, 18, 20, 20);
        clean(2, 5, 20, 26, 20, 20);
        clean(2, 5, 20, 25, 20, 25);
        clean(2, 5, 20, 15, 20, 15);
        clean(2, 5, 20, 14, 20, 20);
        clean(2, 62, 0, 63, 0, 0);
        clean(2, 62, 63, 0, 63, 63);
        clean(2, 62, 0, 62, 0, 62);
        clean(2, 62, 63, 1, 63, 1);
        clean(2, 63, 0, 63, 0, 63);
        clean(2, 63, 63, 0, 63, 0);
    }

    private static void cleanFromEach() {
        due.of("more than E apart from each");
        clean(2, 5, 20, 27, 22, 27);
        clean(2, 5, 22, 27, 20, 27);
        clean(2, 5, 20, 28, 22, 21);
        clean(2, 5, 22, 28, 20, 21);
        clean(2, 5, 20, 15, 22, 15);
        clean(2, 5, 22, 15, 20, 15);
        clean(2, 5, 20, 14, 22, 21);
        clean(10, 5, 20, 25, 30, 25);
        clean(10, 4, 20, 24, 30, 24);
        clean(10, 3, 20, 24, 30, 25);
    }

    private static void cleanBecomesWhatItWas() {
        due.of("It becomes half the sum of both");
        // 25 is 5 off both, and half their sum as well: DUST that is not changed.
        Bench x = Due.bench(Due.flat(2, 2, 20), Due.flat(2, 2, 25), Due.flat(2, 2, 30));
        x.rule(1, 10);
        x.layer(0, 1, 0, 0);
        due.is("E 5: dust(1)", x.dust(1), 0);
        x.rule(2, 4);
        due.is("E 4: dust(1)", x.dust(1), 4);
        due.is("changed(0)", x.changed(0), 0);
        due.is("told(1, 4)", x.told(1, 4), 0);
        due.made(x, 1, Due.flat(2, 2, 25));
    }

    private static void cleanHalfTheSum() {
        due.of("It becomes half the sum of both (the rest away)");
        clean(2, 5, 0, 63, 0, 0);
        clean(2, 5, 0, 63, 1, 0);
        clean(2, 5, 1, 63, 0, 0);
        clean(2, 5, 1, 63, 1, 1);
        clean(2, 5, 1, 63, 2, 1);
        clean(2, 5, 62, 0, 63, 62);
        clean(2, 5, 63, 0, 63, 63);
        clean(10, 5, 53, 0, 63, 58);
        clean(10, 5, 54, 0, 63, 58);
    }

    private static void cleanWithLost() {
        due.of("a SQUARE that isn't LOST is DUST, if .. at this place neither is LOST");
        clean(2, 5, 20, -1, 20, -1);
        clean(2, 5, 63, -1, 63, -1);
        clean(2, 5, -1, 40, 20, 40);
        clean(2, 5, 20, 40, -1, 40);
        clean(2, 5, -1, 40, -1, 40);
        // A LOST one is not a GREY next to 0.
        clean(2, 5, -1, 63, 0, 63);
        clean(2, 5, 0, 63, -1, 63);
        clean(2, 5, -1, -1, -1, -1);
    }

    private static void cleanAtTheEnds() {
        due.of("if the FRAMES ahead of and behind f are there");
        for (int frames = 1; frames <= 10; frames++) {
            Bench x = new Bench();
            for (int f = 0; f < frames; f++) {
                Due.addFrame(x, Due.flat(2, 2, f % 2 * 63));
                x.layer(0, f, 0, 0);
            }
            for (int f = 0; f < frames; f++) {
                boolean isInside = f > 0 && f + 1 < frames;
                String call = frames + " FRAMES: ";
                due.is(call + "dust(" + f + ")", x.dust(f), isInside ? 4 : 0);
                due.is(call + "changed(" + f + ")", x.changed(f), isInside ? 4 : 0);
                due.is(call + "made(" + f + ", 0, 1)", x.made(f, 0, 1), isInside ? 63 - f % 2 * 63 : f % 2 * 63);
            }
        }
        Bench full = Due.bench(Due.flat(6, 6, 0), Due.flat(6, 6, 63), Due.flat(6, 6, 0));
        due.is("all SQUARES: dust(1)", full.dust(1), 36);
        full.put(1, 5, 5, 5);
        due.is("all but the last: dust(1)", full.dust(1), 35);
    }

    private static void cleanRulesAtFirst() {
        due.of("2 at first, 5 at first");
        Bench x = Due.bench(
                new int[][] {{20, 20}, {20, 20}},
                new int[][] {{40, 40}, {26, 25}},
                new int[][] {{22, 23}, {20, 20}});
        x.layer(0, 1, 0, 0);
        due.is("dust(1)", x.dust(1), 2);
        due.made(x, 1, new int[][] {{21, 40}, {20, 25}});
        x.rule(1, 3);
        due.is("a rule counts at once: dust(1)", x.dust(1), 3);
        x.rule(2, 4);
        due.is("a rule counts at once: dust(1)", x.dust(1), 4);
        due.made(x, 1, new int[][] {{21, 21}, {20, 20}});
    }

    private static void cleanWorksOnWhatIsLeft() {
        due.of("each as those before have left them");
        Bench x = Due.bench(
                new int[][] {{20, 30}, {20, 30}},
                new int[][] {{30, 20}, {20, -1}},
                new int[][] {{20, 30}, {20, 30}});
        due.is("dust(1)", x.dust(1), 2);
        x.layer(3, 1, 1, 0);
        x.layer(0, 1, 0, 0);
        // Moved: LOST 30 / LOST 20.
        due.made(x, 1, new int[][] {{-1, 30}, {-1, 30}});
        due.is("changed(1)", x.changed(1), 1);
        due.is("RAW still: dust(1)", x.dust(1), 2);
    }

    private static void promise14CountsRaw() {
        due.of("How many SQUARES of a FRAME are DUST (RAW)");
        Bench x = Due.bench(Due.flat(2, 3, 10), Due.flat(2, 3, 30), Due.flat(2, 3, 10));
        x.layer(0, 1, 0, 0);
        x.layer(3, 0, 3, 3);
        x.layer(3, 2, 3, 3);
        due.is("dust(1)", x.dust(1), 6);
        due.is("dust(0)", x.dust(0), 0);
        due.is("dust(2)", x.dust(2), 0);
        due.is("made(1, 0, 0)", x.made(1, 0, 0), 10);
    }

    private static void promise14Refused() {
        due.of("dust: NUMBER: there is none such");
        Bench x = Due.bench(Due.flat(2, 2, 10), Due.flat(2, 2, 30), Due.flat(2, 2, 10));
        for (int wrong : Due.outside(0, 2)) {
            due.refused("dust(" + wrong + ")", x, b -> b.dust(wrong), FilmBench.NUMBER);
        }
        due.refused("dust(10)", Due.lost(2, 2, 10), b -> b.dust(10), FilmBench.NUMBER);
        due.is("dust(9)", Due.lost(2, 2, 10).dust(9), 0);
    }

    /** What the first frame becomes by a match to the second one. */
    private static void match(int[][] own, int[][] other, int[][] want) {
        Bench x = Due.bench(own, other);
        x.layer(1, 0, 1, 0);
        due.made(x, 0, want);
        due.raw(x, 0, own);
        due.made(x, 1, other);
    }

    private static void matchWithoutGreys() {
        due.of("with n SQUARES that aren't LOST, and m that aren't in r (RAW): if neither is 0");
        int[][] lost = Due.flat(2, 2, -1);
        int[][] some = {{5, -1}, {0, 63}};
        match(lost, some, lost);
        match(some, lost, some);
        match(lost, lost, lost);
        Bench x = Due.bench(some, some);
        x.layer(3, 0, 2, 0);
        x.layer(1, 0, 1, 0);
        due.made(x, 0, lost);
        due.is("changed(1)", x.changed(1), 0);
    }

    private static void matchOneAndMany() {
        due.of("a SQUARE of GREY v, of which there are b, a being darker");
        match(new int[][] {{-1, 9}, {-1, -1}}, new int[][] {{-1, -1}, {63, -1}}, new int[][] {{-1, 63}, {-1, -1}});
        match(new int[][] {{-1, 9}, {-1, -1}}, new int[][] {{40, 30}, {63, 0}}, new int[][] {{-1, 0}, {-1, -1}});
        match(new int[][] {{0, 63}, {1, 62}}, new int[][] {{-1, -1}, {17, -1}}, Due.flat(2, 2, 17));
        match(new int[][] {{0, 63}, {-1, 62}}, Due.flat(2, 2, 0), new int[][] {{0, 0}, {-1, 0}});
        int[][] one = Due.flat(6, 6, -1);
        one[5][5] = 44;
        match(Due.flat(6, 6, 3), one, Due.flat(6, 6, 44));
        int[][] rising = new int[6][6];
        for (int place = 0; place < 36; place++) {
            rising[place / 6][place % 6] = place + 20;
        }
        // All alike: k = 35 / 2, place 17.
        match(Due.flat(6, 6, 3), rising, Due.flat(6, 6, 37));
        int[][] least = Due.flat(6, 6, -1);
        least[5][5] = 20;
        match(one, rising, least);
    }

    private static void matchRanks() {
        due.of("k being (2 a + b - 1) / 2 (quotients with the rest away)");
        int[][] other = {{50, 40, 30}, {20, 10, 0}};
        match(new int[][] {{1, 2, 3}, {4, 5, 6}}, other, new int[][] {{0, 10, 20}, {30, 40, 50}});
        // Two alike take the first place of both, three the middle one, four the second, five the third.
        match(new int[][] {{1, 1, 3}, {4, 5, 6}}, other, new int[][] {{0, 0, 20}, {30, 40, 50}});
        match(new int[][] {{1, 2, 3}, {4, 6, 6}}, other, new int[][] {{0, 10, 20}, {30, 40, 40}});
        match(new int[][] {{1, 1, 1}, {4, 4, 4}}, other, new int[][] {{10, 10, 10}, {40, 40, 40}});
        match(new int[][] {{1, 4, 4}, {4, 4, 6}}, other, new int[][] {{0, 20, 20}, {20, 20, 50}});
        match(new int[][] {{4, 4, 4}, {4, 4, 6}}, other, new int[][] {{20, 20, 20}, {20, 20, 50}});
        match(new int[][] {{4, 4, 4}, {4, 4, 4}}, other, Due.flat(2, 3, 20));
        // LOST is no darker GREY.
        match(new int[][] {{-1, -1, 0}, {-1, 63, -1}}, other, new int[][] {{-1, -1, 0}, {-1, 30, -1}});
    }

    private static void matchGreatestPlace() {
        due.of("becomes the GREY at place k m / n (from 0) of r's GREYS in rising order");
        // n 4, m 3: k 0 1 2 3 are at 0, 0, 1, 2.
        match(new int[][] {{1, 2}, {3, 4}}, new int[][] {{60, -1}, {0, 30}}, new int[][] {{0, 0}, {30, 60}});
        // n 3, m 4: k 0 1 2 are at 0, 1, 2: the greatest is not reached.
        match(new int[][] {{1, 2}, {-1, 4}}, new int[][] {{60, 63}, {0, 30}}, new int[][] {{0, 30}, {-1, 60}});
        // n 2, m 4: at 0 and 2; n 4, m 2: 0 0 1 1.
        match(new int[][] {{1, -1}, {-1, 4}}, new int[][] {{60, 63}, {0, 30}}, new int[][] {{0, -1}, {-1, 60}});
        match(new int[][] {{4, 3}, {2, 1}}, new int[][] {{63, -1}, {-1, 0}}, new int[][] {{63, 63}, {0, 0}});
        // GREYS of r that are alike keep their places.
        match(new int[][] {{1, 2}, {3, 4}}, new int[][] {{7, 7}, {7, 8}}, new int[][] {{7, 7}, {7, 8}});
        match(new int[][] {{1, 2}, {3, 4}}, new int[][] {{7, 8}, {8, 8}}, new int[][] {{7, 8}, {8, 8}});
        int[][] falling = new int[6][6];
        int[][] rising = new int[6][6];
        int[][] want = new int[6][6];
        for (int place = 0; place < 36; place++) {
            falling[place / 6][place % 6] = 63 - place;
            rising[place / 6][place % 6] = place;
            want[place / 6][place % 6] = 35 - place;
        }
        match(falling, rising, want);
    }

    private static void matchAnyFrame() {
        due.of("MATCH to a FRAME r (not f)");
        Bench x = Due.lost(2, 2, 10);
        for (int f = 0; f < 10; f++) {
            x.put(f, 0, 0, 6 * f + 1);
        }
        for (int r = 1; r < 10; r++) {
            x.layer(1, 0, r, 0);
            due.is("match of 0 to " + r, x.made(0, 0, 0), 6 * r + 1);
            x.peel();
        }
        for (int r = 0; r < 9; r++) {
            x.layer(1, 9, r, 0);
            due.is("match of 9 to " + r, x.made(9, 0, 0), 6 * r + 1);
            x.peel();
        }
        x.layer(1, 0, 9, 0);
        x.put(9, 1, 1, 2);
        due.is("r as it is now", x.made(0, 0, 0), 2);
    }

    private static void matchRawAgainstLeft() {
        due.of("MATCH looks at its own SQUARES as they are left, at r RAW");
        Bench x = Due.bench(new int[][] {{1, 2}, {3, 4}}, new int[][] {{60, 50}, {40, 30}});
        x.layer(3, 1, 3, 3);
        x.layer(3, 0, 0, 1);
        x.layer(1, 0, 1, 0);
        // Left: LOST LOST / 1 2; places 0 and 2 of 30 40 50 60.
        due.made(x, 0, new int[][] {{-1, -1}, {30, 50}});
        due.is("changed(2)", x.changed(2), 2);
        x.layer(1, 0, 1, 0);
        due.made(x, 0, new int[][] {{-1, -1}, {30, 50}});
        due.is("a second one finds them alike: changed(3)", x.changed(3), 0);
    }

    private static void fillAheadThenBehind() {
        due.of("a LOST SQUARE becomes what is at its place ahead of f; if .. it is LOST there, what is behind f; else it stays");
        Bench x = Due.bench(
                new int[][] {{10, 0, -1}, {-1, -1, 63}},
                new int[][] {{-1, -1, -1}, {-1, -1, 40}},
                new int[][] {{20, 21, 0}, {63, -1, 50}});
        x.layer(2, 1, 0, 0);
        due.made(x, 1, new int[][] {{10, 0, 0}, {63, -1, 40}});
        due.is("changed(0)", x.changed(0), 4);
        due.raw(x, 1, new int[][] {{-1, -1, -1}, {-1, -1, 40}});
        x.layer(2, 1, 0, 0);
        due.is("a second one has nothing to do: changed(1)", x.changed(1), 0);
    }

    private static void fillAtTheEnds() {
        due.of("if there is no such FRAME, .. what is behind f; else it stays");
        Bench one = Due.lost(2, 2, 1);
        one.layer(2, 0, 0, 0);
        due.made(one, 0, Due.flat(2, 2, -1));
        Bench two = Due.bench(new int[][] {{1, -1}, {-1, 4}}, new int[][] {{5, 6}, {-1, -1}});
        two.layer(2, 0, 0, 0);
        two.layer(2, 1, 0, 0);
        due.made(two, 0, new int[][] {{1, 6}, {-1, 4}});
        due.made(two, 1, new int[][] {{5, 6}, {-1, 4}});
        Bench ten = Due.lost(2, 2, 10);
        ten.row(1, 0, Due.rowOf(0, 63));
        ten.row(8, 0, Due.rowOf(63, 0));
        ten.layer(2, 0, 0, 0);
        ten.layer(2, 9, 0, 0);
        due.made(ten, 0, new int[][] {{0, 63}, {-1, -1}});
        due.made(ten, 9, new int[][] {{63, 0}, {-1, -1}});
    }

    private static void fillNextFramesAlone() {
        due.of("what is at its place ahead of f .. what is behind f");
        Bench x = Due.bench(
                Due.flat(2, 2, 1), Due.flat(2, 2, -1), Due.flat(2, 2, -1), Due.flat(2, 2, -1), Due.flat(2, 2, 5));
        for (int f = 0; f < 5; f++) {
            x.layer(2, f, 0, 0);
        }
        due.made(x, 1, Due.flat(2, 2, 1));
        due.made(x, 2, Due.flat(2, 2, -1));
        due.made(x, 3, Due.flat(2, 2, 5));
        x.put(3, 0, 0, 7);
        due.made(x, 2, new int[][] {{7, -1}, {-1, -1}});
    }

    private static void fillWorksOnWhatIsLeft() {
        due.of("neighbours are looked at as they are RAW");
        Bench x = Due.bench(new int[][] {{1, 2}, {3, -1}}, new int[][] {{30, 31}, {32, 33}}, new int[][] {{5, 6}, {7, 8}});
        x.layer(3, 0, 3, 3);
        x.layer(3, 2, 3, 3);
        x.layer(3, 1, 1, 1);
        x.layer(2, 1, 0, 0);
        due.made(x, 1, new int[][] {{1, 2}, {3, 30}});
        x.put(1, 0, 0, -1);
        due.made(x, 1, new int[][] {{1, 2}, {3, 8}});
        x.layer(0, 1, 0, 0);
        due.is("CLEAN over it: 8 has no GREY ahead", x.made(1, 1, 1), 8);
        Bench alone = Due.bench(new int[][] {{1, 2}, {3, 4}}, new int[][] {{-1, 40}, {-1, -1}});
        alone.layer(2, 1, 0, 0);
        due.made(alone, 1, new int[][] {{1, 40}, {3, 4}});
    }

    private static void moveEverySizeAndWay() {
        due.of("MOVE by (a, b), each -3 to 3: SQUARE (y, x) becomes what was at (y - b, x - a), LOST without");
        for (int size = 0; size < 25; size++) {
            int high = 2 + size / 5;
            int wide = 2 + size % 5;
            int[][] squares = new int[high][wide];
            for (int place = 0; place < high * wide; place++) {
                squares[place / wide][place % wide] = place;
            }
            for (int a = -3; a <= 3; a++) {
                for (int b = -3; b <= 3; b++) {
                    int[][] want = Due.flat(high, wide, -1);
                    for (int y = Math.max(0, b); y < Math.min(high, high + b); y++) {
                        for (int x = Math.max(0, a); x < Math.min(wide, wide + a); x++) {
                            want[y][x] = squares[y - b][x - a];
                        }
                    }
                    Bench bench = Due.bench(squares);
                    due.is("layer(3, 0, " + a + ", " + b + ")", bench.layer(3, 0, a, b), 0);
                    due.made(bench, 0, want);
                }
            }
        }
    }

    private static void moveLosesTheEdges() {
        due.of("LOST without");
        Bench x = Due.bench(new int[][] {{0, 1, 2, 3}, {4, 5, -1, 63}});
        x.layer(3, 0, 3, 0);
        due.made(x, 0, new int[][] {{-1, -1, -1, 0}, {-1, -1, -1, 4}});
        x.layer(3, 0, -3, 0);
        due.made(x, 0, new int[][] {{0, -1, -1, -1}, {4, -1, -1, -1}});
        due.is("changed(1)", x.changed(1), 4);
        x.layer(3, 0, 0, 1);
        due.made(x, 0, new int[][] {{-1, -1, -1, -1}, {0, -1, -1, -1}});
        x.layer(3, 0, 0, 1);
        due.made(x, 0, Due.flat(2, 4, -1));
        x.on(0, false);
        x.on(2, false);
        x.on(3, false);
        due.made(x, 0, new int[][] {{3, -1, -1, -1}, {63, -1, -1, -1}});
        Bench lost = Due.bench(new int[][] {{7, -1, 9}, {-1, 5, 6}});
        lost.layer(3, 0, 1, 0);
        due.made(lost, 0, new int[][] {{-1, 7, -1}, {-1, -1, 5}});
    }

    private static void moveNothing() {
        due.of("MOVE by (0, 0)");
        Bench x = Due.bench(new int[][] {{7, -1}, {0, 63}});
        x.layer(3, 0, 0, 0);
        due.made(x, 0, new int[][] {{7, -1}, {0, 63}});
        due.is("changed(0)", x.changed(0), 0);
        due.is("told(0, 4)", x.told(0, 4), 0);
    }
}
