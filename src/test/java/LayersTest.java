/** Promises 15 to 22: the layers and what is made by them. */
public final class LayersTest {
    private static final Due due = new Due();
    private static final int MIN = Due.MIN;
    private static final int MAX = Due.MAX;

    public static void main(String[] args) {
        promise15Layer();
        promise15LayerRefused();
        promise16On();
        promise17Peel();
        promise18MadeClean();
        promise18MadeMatch();
        promise18MadeMatchWithLost();
        promise18MadeMatchOfFew();
        promise18MadeFill();
        promise18MadeMove();
        promise18MadeInOrder();
        promise18MadeNeighboursAreRaw();
        promise18MadeRefused();
        promise19Changed();
        promise20Of();
        promise21Told();
        promise22Many();
        due.end();
    }

    private static Bench three() {
        return Due.bench(
                new int[][] {{10, 20, 30}, {-1, 5, 6}},
                new int[][] {{40, -1, 31}, {-1, 50, -1}},
                new int[][] {{13, 22, 33}, {7, 6, -1}});
    }

    private static void promise15Layer() {
        Bench x = three();
        due.is("layer(0, 1, 99, 99)", x.layer(0, 1, 99, 99), 0);
        due.is("layer(1, 1, 0, 99)", x.layer(1, 1, 0, 99), 1);
        due.is("layer(2, 2, MIN, MAX)", x.layer(2, 2, MIN, MAX), 2);
        due.is("layer(3, 0, -3, 3)", x.layer(3, 0, -3, 3), 3);
        for (int n = 4; n < 12; n++) {
            due.is("layer(3, 0, 3, -3)", x.layer(3, 0, 3, -3), n);
        }
        due.is("layer of 13", x.layer(0, 1, 0, 0), FilmBench.FULL);
        due.is("layer(4, ..): the number first", x.layer(4, 1, 0, 0), FilmBench.NUMBER);
        due.is("layer(0, 3, ..): the number first", x.layer(0, 3, 0, 0), FilmBench.NUMBER);
        due.is("layer(1, 1, 1, ..): the number first", x.layer(1, 1, 1, 0), FilmBench.NUMBER);
        due.is("layer(3, 1, 4, ..): the number first", x.layer(3, 1, 4, 0), FilmBench.NUMBER);
        due.is("12 layers", x.many(3), 12);
        due.is("all are ON", x.many(4), 12);
    }

    private static void promise15LayerRefused() {
        Bench x = three();
        x.layer(0, 1, 0, 0);
        int[] before = x.seen();
        for (int wrong : new int[] {MIN, -1, 4, MAX}) {
            due.is("layer(" + wrong + ", 0, 1, 1)", x.layer(wrong, 0, 1, 1), FilmBench.NUMBER);
            due.is("layer(3, 0, " + wrong + ", 0)", x.layer(3, 0, wrong == -1 ? -4 : wrong, 0), FilmBench.NUMBER);
            due.is("layer(3, 0, 0, " + wrong + ")", x.layer(3, 0, 0, wrong == -1 ? -4 : wrong), FilmBench.NUMBER);
        }
        for (int wrong : new int[] {MIN, -1, 3, MAX}) {
            for (int kind = 0; kind < 4; kind++) {
                due.is("layer(" + kind + ", " + wrong + ", 1, 1)", x.layer(kind, wrong, 1, 1), FilmBench.NUMBER);
            }
            due.is("layer(1, 0, " + wrong + ", 0)", x.layer(1, 0, wrong, 0), FilmBench.NUMBER);
        }
        due.is("layer(1, 2, 2, 0)", x.layer(1, 2, 2, 0), FilmBench.NUMBER);
        due.same("a refused layer changes nothing", x.seen(), before);
        due.is("layer without frames", new Bench().layer(0, 0, 0, 0), FilmBench.NUMBER);
    }

    private static void promise16On() {
        Bench x = three();
        due.is("on(0, ..) without layers", x.on(0, true), FilmBench.NUMBER);
        x.layer(2, 1, 0, 0);
        x.layer(3, 1, 1, 0);
        due.is("on(0, true)", x.on(0, true), 0);
        due.is("on(0, false)", x.on(0, false), 1);
        due.is("on(0, false)", x.on(0, false), 0);
        due.is("0 is off", x.of(0, 4), 0);
        due.is("1 is ON", x.of(1, 4), 1);
        due.is("off counts nothing", x.made(1, 0, 2), -1);
        due.is("on(0, true)", x.on(0, true), 1);
        due.is("ON counts", x.made(1, 0, 2), 20);
        for (int wrong : new int[] {MIN, -1, 2, 12, MAX}) {
            due.is("on(" + wrong + ", false)", x.on(wrong, false), FilmBench.NUMBER);
            due.is("on(" + wrong + ", true)", x.on(wrong, true), FilmBench.NUMBER);
        }
    }

    private static void promise17Peel() {
        Bench x = three();
        due.is("peel()", x.peel(), FilmBench.NONE);
        x.layer(2, 1, 0, 0);
        x.layer(3, 1, 1, 0);
        x.on(1, false);
        due.is("peel()", x.peel(), 1);
        due.is("the first stays", x.of(0, 0), 2);
        due.is("the latest went", x.of(1, 0), FilmBench.NOTHING);
        due.is("a new one has its number", x.layer(0, 2, 0, 0), 1);
        due.is("and is ON", x.of(1, 4), 1);
        due.is("and of its kind", x.of(1, 0), 0);
        due.is("peel()", x.peel(), 1);
        due.is("peel()", x.peel(), 0);
        due.is("peel()", x.peel(), FilmBench.NONE);
        due.made(x, 1, new int[][] {{40, -1, 31}, {-1, 50, -1}});
    }

    private static void promise18MadeClean() {
        Bench x = Due.bench(
                new int[][] {{10, 10, 10}, {10, -1, 10}, {10, 10, 0}},
                new int[][] {{30, 16, 15}, {4, 30, 30}, {-1, 18, 63}},
                new int[][] {{11, 10, 10}, {12, 10, -1}, {10, 12, 3}});
        x.layer(0, 1, 0, 0);
        due.made(x, 1, new int[][] {{10, 10, 15}, {11, 30, 30}, {-1, 11, 63}});
        x.rule(1, 3);
        due.made(x, 1, new int[][] {{10, 10, 15}, {11, 30, 30}, {-1, 11, 1}});
        x.rule(2, 20);
        due.made(x, 1, new int[][] {{30, 16, 15}, {4, 30, 30}, {-1, 18, 1}});
        x.layer(0, 0, 0, 0);
        x.layer(0, 2, 0, 0);
        due.made(x, 0, new int[][] {{10, 10, 10}, {10, -1, 10}, {10, 10, 0}});
        due.made(x, 2, new int[][] {{11, 10, 10}, {12, 10, -1}, {10, 12, 3}});
    }

    private static void promise18MadeMatch() {
        Bench x = Due.bench(
                new int[][] {{1, 2, 2}, {2, 5, 9}},
                new int[][] {{60, 50, 40}, {30, 20, 10}});
        x.layer(1, 0, 1, 0);
        // 1: k 0; 2: a 1, b 3, k 2; 5: k 4; 9: k 5.
        due.made(x, 0, new int[][] {{10, 30, 30}, {30, 50, 60}});
        x.layer(1, 1, 0, 0);
        due.made(x, 1, new int[][] {{9, 5, 2}, {2, 2, 1}});
    }

    private static void promise18MadeMatchWithLost() {
        Bench x = Due.bench(
                new int[][] {{8, -1, 8}, {8, 3, 8}},
                new int[][] {{-1, 40, 50}, {-1, -1, 7}});
        x.layer(1, 0, 1, 0);
        // n 5, m 3. 3: k 0, place 0; 8: a 1, b 4, k 2, place 6 / 5.
        due.made(x, 0, new int[][] {{40, -1, 40}, {40, 7, 40}});
        x.layer(1, 1, 0, 0);
        // n 3, m 5: k 0, 1, 2 are at places 0, 1, 3 of 3 8 8 8 8.
        due.made(x, 1, new int[][] {{-1, 8, 8}, {-1, -1, 3}});
        x.row(1, 0, -1L);
        x.row(1, 1, -1L);
        due.made(x, 0, new int[][] {{8, -1, 8}, {8, 3, 8}});
        due.made(x, 1, new int[][] {{-1, -1, -1}, {-1, -1, -1}});
    }

    private static void promise18MadeMatchOfFew() {
        Bench x = Due.bench(
                new int[][] {{4, 4}, {9, 9}},
                new int[][] {{10, 20}, {30, 40}},
                new int[][] {{-1, 7}, {-1, -1}});
        x.layer(1, 0, 1, 0);
        // 4: a 0, b 2, k 0; 9: a 2, b 2, k 2.
        due.made(x, 0, new int[][] {{10, 10}, {30, 30}});
        x.layer(1, 2, 1, 0);
        due.made(x, 2, new int[][] {{-1, 10}, {-1, -1}});
        x.layer(1, 1, 2, 0);
        due.made(x, 1, new int[][] {{7, 7}, {7, 7}});
    }

    private static void promise18MadeFill() {
        Bench x = three();
        for (int f = 0; f < 3; f++) {
            x.layer(2, f, 0, 0);
        }
        due.made(x, 0, new int[][] {{10, 20, 30}, {-1, 5, 6}});
        due.made(x, 1, new int[][] {{40, 20, 31}, {7, 50, 6}});
        due.made(x, 2, new int[][] {{13, 22, 33}, {7, 6, -1}});
        x.put(1, 1, 0, 44);
        x.put(1, 1, 2, 45);
        due.made(x, 0, new int[][] {{10, 20, 30}, {44, 5, 6}});
        due.made(x, 2, new int[][] {{13, 22, 33}, {7, 6, 45}});
    }

    private static void promise18MadeMove() {
        for (int a = -3; a <= 3; a++) {
            for (int b = -3; b <= 3; b++) {
                Bench x = Due.bench(new int[][] {{1, 2, 3, 4}, {5, 6, 7, 8}, {9, 10, -1, 12}});
                x.layer(3, 0, a, b);
                for (int r = 0; r < 3; r++) {
                    for (int c = 0; c < 4; c++) {
                        int want = r - b < 0 || r - b > 2 || c - a < 0 || c - a > 3 ? -1 : x.raw(0, r - b, c - a);
                        due.is("moved by " + a + ", " + b + ": made(0, " + r + ", " + c + ")", x.made(0, r, c), want);
                    }
                }
            }
        }
        Bench x = Due.bench(new int[][] {{1, 2, 3}, {4, 5, 6}});
        x.layer(3, 0, 1, 0);
        due.made(x, 0, new int[][] {{-1, 1, 2}, {-1, 4, 5}});
        x.layer(3, 0, -1, 1);
        due.made(x, 0, new int[][] {{-1, -1, -1}, {1, 2, -1}});
    }

    private static void promise18MadeInOrder() {
        Bench x = three();
        x.layer(3, 1, 1, 0);
        x.layer(2, 1, 0, 0);
        due.made(x, 1, new int[][] {{10, 40, 30}, {7, 5, 50}});
        x.layer(0, 1, 0, 0);
        // 40 is far off 20 and 22; at (1, 2) the frame behind is lost.
        due.made(x, 1, new int[][] {{10, 21, 30}, {7, 5, 50}});
        x.layer(1, 1, 0, 0);
        // r's greys: 5 6 10 20 30; own: 5 7 10 21 30 50 of 6.
        due.made(x, 1, new int[][] {{6, 10, 20}, {5, 5, 30}});
        x.on(1, false);
        // moved: lost 40 lost / lost lost 50; cleaned: 21 and 50; matched: k 0 and 1 of 2, places 0 and 2.
        due.made(x, 1, new int[][] {{-1, 5, -1}, {-1, -1, 10}});
        due.made(x, 0, new int[][] {{10, 20, 30}, {-1, 5, 6}});
        due.is("raw is never touched", x.raw(1, 0, 0), 40);
    }

    private static void promise18MadeNeighboursAreRaw() {
        Bench x = three();
        x.layer(3, 0, 3, 3);
        x.layer(3, 2, 3, 3);
        x.layer(2, 1, 0, 0);
        x.layer(0, 1, 0, 0);
        due.made(x, 1, new int[][] {{40, 20, 31}, {7, 5, 6}});
        due.is("frame 0 is lost as it is made", x.told(0, 0), 6);
        Bench z = Due.bench(new int[][] {{1, 2}, {3, 4}}, new int[][] {{60, 50}, {40, 30}});
        z.layer(3, 1, 2, 0);
        z.layer(1, 0, 1, 0);
        due.made(z, 0, new int[][] {{30, 40}, {50, 60}});
    }

    private static void promise18MadeRefused() {
        Bench x = three();
        for (int wrong : new int[] {MIN, -1, 3, MAX}) {
            due.is("made(" + wrong + ", 0, 0)", x.made(wrong, 0, 0), FilmBench.NOTHING);
            due.is("made(0, 0, " + wrong + ")", x.made(0, 0, wrong), FilmBench.NOTHING);
        }
        for (int wrong : new int[] {MIN, -1, 2, MAX}) {
            due.is("made(0, " + wrong + ", 0)", x.made(0, wrong, 0), FilmBench.NOTHING);
        }
        due.is("made without frames", new Bench().made(0, 0, 0), FilmBench.NOTHING);
    }

    private static void promise19Changed() {
        Bench x = three();
        due.is("changed(0) without layers", x.changed(0), FilmBench.NUMBER);
        x.layer(3, 1, 1, 0);
        x.layer(2, 1, 0, 0);
        x.layer(3, 0, 0, 0);
        x.layer(0, 1, 0, 0);
        x.layer(2, 1, 0, 0);
        due.is("changed(0)", x.changed(0), 5);
        due.is("changed(1)", x.changed(1), 4);
        due.is("changed(2): a move by nothing", x.changed(2), 0);
        due.is("changed(3)", x.changed(3), 1);
        due.is("changed(4): nothing is left to fill", x.changed(4), 0);
        x.on(1, false);
        due.is("changed(1): off", x.changed(1), 0);
        due.is("changed(0) is as it was", x.changed(0), 5);
        due.is("changed(4) has its work", x.changed(4), 4);
        x.on(0, false);
        due.is("changed(0): off", x.changed(0), 0);
        due.is("changed(4) fills three", x.changed(4), 3);
        for (int wrong : new int[] {MIN, -1, 5, 12, MAX}) {
            due.is("changed(" + wrong + ")", x.changed(wrong), FilmBench.NUMBER);
        }
    }

    private static void promise20Of() {
        Bench x = three();
        x.layer(0, 1, 3, 3);
        x.layer(1, 2, 1, 3);
        x.layer(2, 0, 3, 3);
        x.layer(3, 1, -2, 3);
        int[][] want = {{0, 1, 0, 0, 1}, {1, 2, 1, 0, 1}, {2, 0, 0, 0, 1}, {3, 1, -2, 3, 1}};
        for (int n = 0; n < 4; n++) {
            for (int what = 0; what < 5; what++) {
                due.is("of(" + n + ", " + what + ")", x.of(n, what), want[n][what]);
            }
            for (int wrong : new int[] {MIN, -1, 5, MAX}) {
                due.is("of(" + n + ", " + wrong + ")", x.of(n, wrong), FilmBench.NOTHING);
            }
        }
        x.on(3, false);
        due.is("of(3, 4)", x.of(3, 4), 0);
        for (int wrong : new int[] {MIN, -1, 4, 12, MAX}) {
            due.is("of(" + wrong + ", 0)", x.of(wrong, 0), FilmBench.NOTHING);
        }
    }

    private static void promise21Told() {
        Bench x = three();
        all(x, 1, 3, 121, 31, 50, 0);
        x.layer(2, 1, 0, 0);
        all(x, 1, 0, 40 + 20 + 31 + 7 + 50 + 6, 6, 50, 3);
        all(x, 0, 1, 71, 5, 30, 0);
        x.layer(3, 1, 0, 1);
        all(x, 1, 3, 91, 20, 40, 5);
        x.layer(3, 1, 0, 1);
        all(x, 1, 6, 0, FilmBench.NONE, FilmBench.NONE, 3);
        x.on(0, false);
        x.on(1, false);
        x.on(2, false);
        all(x, 1, 3, 121, 31, 50, 0);
        for (int wrong : new int[] {MIN, -1, 3, MAX}) {
            due.is("told(" + wrong + ", 0)", x.told(wrong, 0), FilmBench.NUMBER);
        }
        for (int wrong : new int[] {MIN, -1, 5, MAX}) {
            due.is("told(0, " + wrong + ")", x.told(0, wrong), FilmBench.NUMBER);
        }
        Bench ends = Due.bench(new int[][] {{0, 0}, {0, 0}}, new int[][] {{63, 63}, {63, 63}});
        all(ends, 0, 0, 0, 0, 0, 0);
        all(ends, 1, 0, 252, 63, 63, 0);
        Bench first = Due.bench(new int[][] {{1, 5}, {5, 5}}, new int[][] {{9, 5}, {5, 5}}, new int[][] {{5, 5}, {5, 1}});
        all(first, 0, 0, 16, 1, 5, 0);
        all(first, 1, 0, 24, 5, 9, 0);
        all(first, 2, 0, 16, 1, 5, 0);
    }

    private static void all(Bench x, int frame, int... want) {
        for (int what = 0; what < 5; what++) {
            due.is("told(" + frame + ", " + what + ")", x.told(frame, what), want[what]);
        }
    }

    private static void promise22Many() {
        Bench x = three();
        x.layer(2, 1, 0, 0);
        x.layer(3, 0, 3, 3);
        x.on(0, false);
        x.rule(0, 2);
        x.rule(1, 4);
        x.rule(2, 8);
        int[] want = {2, 3, 3, 2, 1, 5, 2, 4, 8};
        for (int what = 0; what < 9; what++) {
            due.is("many(" + what + ")", x.many(what), want[what]);
        }
        for (int wrong : new int[] {MIN, -1, 9, MAX}) {
            due.is("many(" + wrong + ")", x.many(wrong), FilmBench.NUMBER);
        }
    }
}
