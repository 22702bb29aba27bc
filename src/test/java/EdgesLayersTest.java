/** Boundary cases of the layers as such: Terms 2, and promises 15 to 22. */
public final class EdgesLayersTest {
    private static final Due due = new Due();

    public static void main(String[] args) {
        termsTwelveAtMost();
        termsOnAtFirst();
        termsByNumbers();
        termsOfItsFrameAlone();
        termsRawIsNeverTouched();
        promise15Kinds();
        promise15MatchNeedsAnother();
        promise15MoveBounds();
        promise15ElseTheyCountNothing();
        promise15Refused();
        promise15Full();
        promise16NewOrNot();
        promise16Refused();
        promise17DownToNone();
        promise17TheLatestGoes();
        promise18FirstAndLastFrame();
        promise18Refused();
        promise19FirstAndLastLayer();
        promise19Off();
        promise19CountsNoLaterLayer();
        promise19Refused();
        promise20EachKind();
        promise20Refused();
        promise21AllLost();
        promise21LeastAndGreatest();
        promise21OtherThanRaw();
        promise21Refused();
        promise22LeastAndMost();
        promise22Refused();
        due.end();
    }

    private static Bench three() {
        return Due.bench(
                new int[][] {{10, 20, 30}, {-1, 5, 6}},
                new int[][] {{40, -1, 31}, {-1, 50, -1}},
                new int[][] {{11, 21, 33}, {7, 6, -1}});
    }

    private static void termsTwelveAtMost() {
        due.of("LAYERS are numbered from 0 as they come, 12 at most");
        Bench x = three();
        for (int n = 0; n < 12; n++) {
            due.is("many(3)", x.many(3), n);
            int kind = n % 4;
            due.is("layer(" + kind + ", ..)", x.layer(kind, n % 3, kind == 1 ? (n + 1) % 3 : 0, 0), n);
        }
        due.is("many(3)", x.many(3), 12);
        due.is("of(11, 0)", x.of(11, 0), 3);
        due.refused("of(12, 0)", x, b -> b.of(12, 0), FilmBench.NOTHING);
        for (int kind = 0; kind < 4; kind++) {
            int k = kind;
            due.refused("layer(" + kind + ", 2, 1, 0)", x, b -> b.layer(k, 2, 1, 0), FilmBench.FULL);
        }
        // Twelve in all, not of each frame.
        Bench one = three();
        for (int n = 0; n < 12; n++) {
            one.layer(2, 0, 0, 0);
        }
        due.refused("layer(2, 1, 0, 0)", one, b -> b.layer(2, 1, 0, 0), FilmBench.FULL);
    }

    private static void termsOnAtFirst() {
        due.of("it is ON (at first) or off");
        Bench x = three();
        for (int n = 0; n < 12; n++) {
            x.layer(2, n % 3, 0, 0);
            due.is("of(" + n + ", 4)", x.of(n, 4), 1);
            due.is("many(4)", x.many(4), n + 1);
        }
        for (int n = 0; n < 12; n++) {
            due.is("on(" + n + ", false)", x.on(n, false), 1);
            due.is("many(4)", x.many(4), 11 - n);
        }
        x.peel();
        x.layer(2, 0, 0, 0);
        due.is("one that comes where an off one was: of(11, 4)", x.of(11, 4), 1);
        due.is("many(4)", x.many(4), 1);
    }

    private static void termsByNumbers() {
        due.of("changed by its LAYERS that are ON, by numbers, each as those before have left them");
        Bench fillFirst = Due.bench(new int[][] {{1, 2}, {3, 4}}, new int[][] {{-1, 8}, {9, -1}});
        fillFirst.layer(2, 1, 0, 0);
        fillFirst.layer(3, 1, 1, 0);
        due.made(fillFirst, 1, new int[][] {{-1, 1}, {-1, 9}});
        Bench moveFirst = Due.bench(new int[][] {{1, 2}, {3, 4}}, new int[][] {{-1, 8}, {9, -1}});
        moveFirst.layer(3, 1, 1, 0);
        moveFirst.layer(2, 1, 0, 0);
        due.made(moveFirst, 1, new int[][] {{1, 2}, {3, 9}});
        // Twelve moves to and fro leave what never left the frame.
        Bench x = Due.bench(Due.picture(0, 0));
        for (int n = 0; n < 12; n++) {
            x.layer(3, 0, n % 2 == 0 ? 1 : -1, n % 2 == 0 ? -1 : 1);
        }
        int[][] want = Due.picture(0, 0);
        for (int place = 0; place < 6; place++) {
            want[place][5] = -1;
            want[0][place] = -1;
        }
        due.made(x, 0, want);
        x.on(11, false);
        due.is("without the last: made(0, 0, 0)", x.made(0, 0, 0), -1);
        due.is("without the last: made(0, 0, 1)", x.made(0, 0, 1), want[1][0]);
        due.is("without the last: made(0, 5, 5)", x.made(0, 5, 5), -1);
    }

    private static void termsOfItsFrameAlone() {
        due.of("MADE of a FRAME: its RAW SQUARES, changed by its LAYERS");
        Bench x = Due.lost(2, 2, 10);
        for (int f = 0; f < 10; f++) {
            x.row(f, 0, Due.rowOf(f, f + 20));
        }
        x.layer(3, 0, 1, 0);
        x.layer(3, 9, -1, 0);
        due.made(x, 0, new int[][] {{-1, 0}, {-1, -1}});
        due.made(x, 9, new int[][] {{29, -1}, {-1, -1}});
        for (int f = 1; f < 9; f++) {
            due.made(x, f, new int[][] {{f, f + 20}, {-1, -1}});
        }
    }

    private static void termsRawIsNeverTouched() {
        due.of("over raw frames that are never touched");
        Bench x = three();
        x.layer(0, 1, 0, 0);
        x.layer(1, 1, 0, 0);
        x.layer(2, 1, 0, 0);
        x.layer(3, 1, -1, 1);
        x.made(1, 0, 0);
        x.changed(3);
        x.told(1, 4);
        due.raw(x, 0, new int[][] {{10, 20, 30}, {-1, 5, 6}});
        due.raw(x, 1, new int[][] {{40, -1, 31}, {-1, 50, -1}});
        due.raw(x, 2, new int[][] {{11, 21, 33}, {7, 6, -1}});
        x.put(1, 0, 0, 12);
        due.is("put goes to RAW: raw(1, 0, 0)", x.raw(1, 0, 0), 12);
    }

    private static void promise15Kinds() {
        due.of("A LAYER comes: its number. NUMBER: there is no such KIND, FRAME");
        Bench x = three();
        due.is("layer(0, 0, 0, 0)", x.layer(0, 0, 0, 0), 0);
        due.is("layer(3, 2, 0, 0)", x.layer(3, 2, 0, 0), 1);
        Bench ten = Due.lost(2, 2, 10);
        for (int kind = 0; kind < 4; kind++) {
            due.is("layer(" + kind + ", 9, 0, 0)", ten.layer(kind, 9, 0, 0), kind);
            int k = kind;
            due.refused("layer(" + kind + ", 10, 0, 0)", ten, b -> b.layer(k, 10, 0, 0), FilmBench.NUMBER);
        }
    }

    private static void promise15MatchNeedsAnother() {
        due.of("of MATCH a isn't another FRAME");
        Bench one = Due.lost(2, 2, 1);
        for (int wrong : new int[] {Due.MIN, -1, 0, 1, Due.MAX}) {
            due.refused("one FRAME: layer(1, 0, " + wrong + ", 0)", one, b -> b.layer(1, 0, wrong, 0), FilmBench.NUMBER);
        }
        Bench x = three();
        for (int f = 0; f < 3; f++) {
            int frame = f;
            due.refused("layer(1, " + f + ", " + f + ", 0)", x, b -> b.layer(1, frame, frame, 0), FilmBench.NUMBER);
            for (int wrong : Due.outside(0, 2)) {
                due.refused("layer(1, " + f + ", " + wrong + ", 0)", x, b -> b.layer(1, frame, wrong, 0), FilmBench.NUMBER);
            }
        }
        int number = 0;
        for (int f = 0; f < 3; f++) {
            for (int r = 0; r < 3; r++) {
                if (r != f) {
                    due.is("layer(1, " + f + ", " + r + ", 0)", x.layer(1, f, r, 0), number);
                    number++;
                }
            }
        }
    }

    private static void promise15MoveBounds() {
        due.of("of MOVE a or b isn't -3 to 3");
        Bench x = three();
        for (int wrong : Due.outside(-3, 3)) {
            for (int right : new int[] {-3, 0, 3}) {
                due.refused("layer(3, 0, " + wrong + ", " + right + ")", x, b -> b.layer(3, 0, wrong, right), FilmBench.NUMBER);
                due.refused("layer(3, 2, " + right + ", " + wrong + ")", x, b -> b.layer(3, 2, right, wrong), FilmBench.NUMBER);
            }
        }
        int[][] may = {{-3, -3}, {-3, 3}, {3, -3}, {3, 3}, {0, 0}};
        for (int n = 0; n < may.length; n++) {
            due.is("layer(3, 1, " + may[n][0] + ", " + may[n][1] + ")", x.layer(3, 1, may[n][0], may[n][1]), n);
            due.is("of(" + n + ", 2)", x.of(n, 2), may[n][0]);
            due.is("of(" + n + ", 3)", x.of(n, 3), may[n][1]);
        }
    }

    private static void promise15ElseTheyCountNothing() {
        due.of("(else they count nothing)");
        int[] any = {Due.MIN, -4, -1, 0, 1, 4, Due.MAX};
        for (int v : any) {
            Bench x = three();
            due.is("layer(0, 1, " + v + ", " + v + ")", x.layer(0, 1, v, v), 0);
            due.is("layer(2, 1, " + v + ", " + v + ")", x.layer(2, 1, v, v), 1);
            due.is("layer(1, 1, 0, " + v + ")", x.layer(1, 1, 0, v), 2);
            int[][] want = {{0, 0}, {0, 0}, {0, 0}};
            for (int n = 0; n < 3; n++) {
                due.is("of(" + n + ", 2)", x.of(n, 2), want[n][0]);
                due.is("of(" + n + ", 3)", x.of(n, 3), want[n][1]);
            }
            Bench like = three();
            like.layer(0, 1, 0, 0);
            like.layer(2, 1, 0, 0);
            like.layer(1, 1, 0, 0);
            due.same("all is as with 0", x.seenNow(), like.seenNow());
        }
        Bench match = three();
        match.layer(1, 0, 2, Due.MAX);
        due.is("of MATCH a counts: of(0, 2)", match.of(0, 2), 2);
        due.is("of MATCH b doesn't: of(0, 3)", match.of(0, 3), 0);
    }

    private static void promise15Refused() {
        due.of("NUMBER: there is no such KIND, FRAME");
        Bench x = three();
        x.layer(2, 1, 0, 0);
        for (int wrong : Due.outside(0, 3)) {
            due.refused("layer(" + wrong + ", 0, 1, 1)", x, b -> b.layer(wrong, 0, 1, 1), FilmBench.NUMBER);
        }
        for (int wrong : Due.outside(0, 2)) {
            for (int kind = 0; kind < 4; kind++) {
                int k = kind;
                due.refused("layer(" + kind + ", " + wrong + ", 1, 1)", x, b -> b.layer(k, wrong, 1, 1), FilmBench.NUMBER);
            }
        }
    }

    private static void promise15Full() {
        due.of("layer: FULL");
        Bench x = three();
        for (int n = 0; n < 11; n++) {
            x.layer(2, 1, 0, 0);
        }
        due.is("the twelfth", x.layer(3, 1, 1, 1), 11);
        due.refused("the thirteenth", x, b -> b.layer(3, 1, 1, 1), FilmBench.FULL);
        x.on(0, false);
        due.refused("off ones count too", x, b -> b.layer(3, 1, 1, 1), FilmBench.FULL);
        due.is("peel()", x.peel(), 11);
        due.is("the twelfth once more", x.layer(0, 0, 0, 0), 11);
        due.refused("the thirteenth once more", x, b -> b.layer(0, 0, 0, 0), FilmBench.FULL);
        for (int wrong : Due.outside(0, 3)) {
            due.refused("layer(" + wrong + ", 0, 0, 0)", x, b -> b.layer(wrong, 0, 0, 0), FilmBench.NUMBER);
        }
    }

    private static void promise16NewOrNot() {
        due.of("A LAYER is ON, or off: 1 if that is new, else 0");
        Bench x = Due.bench(new int[][] {{1, 2}, {3, 4}});
        for (int n = 0; n < 12; n++) {
            x.layer(3, 0, 0, 0);
        }
        for (int n : new int[] {0, 11}) {
            int[] before = x.seenNow();
            due.is("on(" + n + ", true)", x.on(n, true), 0);
            due.same("nothing is new", x.seenNow(), before);
            due.is("on(" + n + ", false)", x.on(n, false), 1);
            due.is("of(" + n + ", 4)", x.of(n, 4), 0);
            due.is("many(4)", x.many(4), 11);
            due.is("on(" + n + ", false)", x.on(n, false), 0);
            due.is("many(4)", x.many(4), 11);
            due.is("on(" + n + ", true)", x.on(n, true), 1);
            due.is("on(" + n + ", true)", x.on(n, true), 0);
            due.same("all is as it was", x.seenNow(), before);
        }
    }

    private static void promise16Refused() {
        due.of("on: NUMBER: there is none such");
        Bench x = three();
        x.layer(2, 1, 0, 0);
        x.layer(3, 1, 1, 0);
        x.on(1, false);
        for (int wrong : Due.outside(0, 1)) {
            due.refused("on(" + wrong + ", true)", x, b -> b.on(wrong, true), FilmBench.NUMBER);
            due.refused("on(" + wrong + ", false)", x, b -> b.on(wrong, false), FilmBench.NUMBER);
        }
        x.peel();
        due.refused("on(1, true) of one that went", x, b -> b.on(1, true), FilmBench.NUMBER);
        for (int n = 1; n < 12; n++) {
            x.layer(2, 1, 0, 0);
        }
        due.refused("on(12, false)", x, b -> b.on(12, false), FilmBench.NUMBER);
        due.is("on(11, false)", x.on(11, false), 1);
    }

    private static void promise17DownToNone() {
        due.of("The latest LAYER goes: how many there are. NONE: there are none");
        Bench x = three();
        due.refused("peel()", x, Bench::peel, FilmBench.NONE);
        int[] before = x.seenNow();
        for (int n = 0; n < 12; n++) {
            x.layer(3, n % 3, 1, 1);
        }
        for (int n = 11; n >= 0; n--) {
            due.is("peel()", x.peel(), n);
            due.is("many(3)", x.many(3), n);
        }
        due.same("all is as without LAYERS", x.seenNow(), before);
        due.refused("peel()", x, Bench::peel, FilmBench.NONE);
        due.refused("peel()", new Bench(), Bench::peel, FilmBench.NONE);
        due.is("the next has number 0", x.layer(2, 0, 0, 0), 0);
        due.is("peel()", x.peel(), 0);
    }

    private static void promise17TheLatestGoes() {
        due.of("The latest LAYER goes");
        Bench x = three();
        x.layer(3, 2, 1, 0);
        x.layer(2, 1, 0, 0);
        int[] before = x.seenNow();
        x.layer(1, 0, 2, 0);
        x.on(2, false);
        due.is("peel() of an off one", x.peel(), 2);
        due.same("the others stay", x.seenNow(), before);
        due.is("peel() of another FRAME's", x.peel(), 1);
        due.is("of(0, 1)", x.of(0, 1), 2);
        due.is("made(1, 0, 1)", x.made(1, 0, 1), -1);
    }

    private static void promise18FirstAndLastFrame() {
        due.of("A SQUARE as it is MADE");
        Bench x = Due.lost(6, 6, 10);
        x.put(0, 0, 0, 0);
        x.put(9, 5, 5, 63);
        due.is("made(0, 0, 0)", x.made(0, 0, 0), 0);
        due.is("made(9, 5, 5)", x.made(9, 5, 5), 63);
        due.is("made(9, 0, 0)", x.made(9, 0, 0), -1);
        x.layer(3, 0, 3, 3);
        x.layer(3, 9, -3, -3);
        due.is("made(0, 3, 3)", x.made(0, 3, 3), 0);
        due.is("made(0, 0, 0)", x.made(0, 0, 0), -1);
        due.is("made(9, 2, 2)", x.made(9, 2, 2), 63);
        due.is("made(9, 5, 5)", x.made(9, 5, 5), -1);
    }

    private static void promise18Refused() {
        due.of("made: NOTHING: there is no such FRAME, SQUARE");
        Bench x = three();
        x.layer(2, 1, 0, 0);
        for (int wrong : Due.outside(0, 2)) {
            due.refused("made(" + wrong + ", 0, 0)", x, b -> b.made(wrong, 0, 0), FilmBench.NOTHING);
            due.refused("made(1, 0, " + wrong + ")", x, b -> b.made(1, 0, wrong), FilmBench.NOTHING);
            due.refused("made(1, 1, " + wrong + ")", x, b -> b.made(1, 1, wrong), FilmBench.NOTHING);
        }
        for (int wrong : Due.outside(0, 1)) {
            due.refused("made(1, " + wrong + ", 0)", x, b -> b.made(1, wrong, 0), FilmBench.NOTHING);
        }
        due.refused("made(10, 0, 0)", Due.lost(2, 2, 10), b -> b.made(10, 0, 0), FilmBench.NOTHING);
    }

    private static void promise19FirstAndLastLayer() {
        due.of("How many SQUARES a LAYER changes");
        Bench x = Due.bench(Due.flat(6, 6, 9), Due.flat(6, 6, -1));
        x.layer(2, 1, 0, 0);
        for (int n = 1; n < 11; n++) {
            x.layer(3, 0, 0, 0);
        }
        x.layer(3, 1, 3, 0);
        due.is("all SQUARES: changed(0)", x.changed(0), 36);
        due.is("none: changed(1)", x.changed(1), 0);
        due.is("half: changed(11)", x.changed(11), 18);
        // The same GREY from another SQUARE is no change.
        x.on(0, false);
        due.is("LOST by LOST: changed(11)", x.changed(11), 0);
        Bench flat = Due.bench(Due.flat(2, 3, 9));
        flat.layer(3, 0, 1, 0);
        due.is("9 by 9: changed(0)", flat.changed(0), 2);
    }

    private static void promise19Off() {
        due.of("(as its FRAME is MADE; 0: off)");
        Bench x = three();
        x.layer(3, 1, 1, 0);
        x.layer(2, 1, 0, 0);
        due.is("changed(0)", x.changed(0), 5);
        due.is("changed(1)", x.changed(1), 4);
        x.on(1, false);
        due.is("off: changed(1)", x.changed(1), 0);
        due.is("changed(0)", x.changed(0), 5);
        x.on(0, false);
        x.on(1, true);
        due.is("off: changed(0)", x.changed(0), 0);
        due.is("with one before it off: changed(1)", x.changed(1), 3);
        x.on(0, true);
        due.is("changed(1)", x.changed(1), 4);
        // Off, and as the last one applied there is another LAYER.
        x.layer(3, 1, 0, 1);
        x.on(2, false);
        due.is("off: changed(2)", x.changed(2), 0);
        x.layer(3, 2, 3, 3);
        due.is("of another FRAME: changed(3)", x.changed(3), 5);
    }

    private static void promise19CountsNoLaterLayer() {
        due.of("How many SQUARES a LAYER changes (as its FRAME is MADE)");
        Bench x = Due.bench(new int[][] {{1, 2, 3}, {4, 5, 6}});
        x.layer(3, 0, 1, 0);
        due.is("changed(0)", x.changed(0), 6);
        x.layer(3, 0, -1, 0);
        due.is("a later one moves it back: changed(0)", x.changed(0), 6);
        due.is("changed(1)", x.changed(1), 6);
        due.is("told(0, 4)", x.told(0, 4), 2);
        x.layer(3, 0, 3, 0);
        due.is("changed(2)", x.changed(2), 4);
        due.is("changed(0)", x.changed(0), 6);
        due.is("told(0, 4)", x.told(0, 4), 6);
    }

    private static void promise19Refused() {
        due.of("changed: NUMBER: there is none such");
        Bench x = three();
        x.layer(2, 1, 0, 0);
        x.layer(3, 1, 1, 0);
        for (int wrong : Due.outside(0, 1)) {
            due.refused("changed(" + wrong + ")", x, b -> b.changed(wrong), FilmBench.NUMBER);
        }
        x.on(1, false);
        due.refused("changed(2) behind an off one", x, b -> b.changed(2), FilmBench.NUMBER);
        x.peel();
        due.refused("changed(1) of one that went", x, b -> b.changed(1), FilmBench.NUMBER);
        for (int n = 1; n < 12; n++) {
            x.layer(2, 1, 0, 0);
        }
        due.is("changed(11)", x.changed(11), 0);
        due.refused("changed(12)", x, b -> b.changed(12), FilmBench.NUMBER);
    }

    private static void promise20EachKind() {
        due.of("what = 0 KIND, 1 FRAME, 2 a (of MATCH, MOVE, else 0), 3 b (of MOVE, else 0), 4 1 if it is ON, else 0");
        Bench x = Due.lost(2, 2, 10);
        int[][] told = {
            {0, 0, 3, 3}, {0, 9, -3, -3}, {1, 0, 9, 3}, {1, 9, 0, -3}, {2, 0, 1, 2}, {2, 9, -1, -2},
            {3, 0, 3, -3}, {3, 9, -3, 3}, {3, 5, 0, 0}, {1, 4, 5, Due.MIN}, {2, 3, Due.MAX, Due.MIN}, {3, 8, 1, 2}};
        for (int n = 0; n < 12; n++) {
            x.layer(told[n][0], told[n][1], told[n][2], told[n][3]);
        }
        for (int n = 0; n < 12; n++) {
            int kind = told[n][0];
            due.is("of(" + n + ", 0)", x.of(n, 0), kind);
            due.is("of(" + n + ", 1)", x.of(n, 1), told[n][1]);
            due.is("of(" + n + ", 2)", x.of(n, 2), kind == 1 || kind == 3 ? told[n][2] : 0);
            due.is("of(" + n + ", 3)", x.of(n, 3), kind == 3 ? told[n][3] : 0);
            due.is("of(" + n + ", 4)", x.of(n, 4), 1);
            x.on(n, false);
            due.is("of(" + n + ", 4)", x.of(n, 4), 0);
        }
    }

    private static void promise20Refused() {
        due.of("of: NOTHING: there is none such, another what");
        Bench x = three();
        x.layer(3, 1, -3, 3);
        x.layer(1, 1, 2, 0);
        for (int wrong : Due.outside(0, 1)) {
            for (int what = 0; what < 5; what++) {
                int w = what;
                due.refused("of(" + wrong + ", " + what + ")", x, b -> b.of(wrong, w), FilmBench.NOTHING);
            }
        }
        for (int wrong : Due.outside(0, 4)) {
            due.refused("of(0, " + wrong + ")", x, b -> b.of(0, wrong), FilmBench.NOTHING);
            due.refused("of(1, " + wrong + ")", x, b -> b.of(1, wrong), FilmBench.NOTHING);
            due.refused("of(2, " + wrong + ")", x, b -> b.of(2, wrong), FilmBench.NOTHING);
        }
    }

    private static void told(Bench x, int frame, int... want) {
        for (int what = 0; what < 5; what++) {
            due.is("told(" + frame + ", " + what + ")", x.told(frame, what), want[what]);
        }
    }

    private static void promise21AllLost() {
        due.of("NONE: all are LOST (2, 3)");
        for (int side = 2; side <= 6; side++) {
            Bench x = Due.lost(side, side, 2);
            told(x, 0, side * side, 0, FilmBench.NONE, FilmBench.NONE, 0);
            due.refused("told(1, 2)", x, b -> b.told(1, 2), FilmBench.NONE);
            due.refused("told(1, 3)", x, b -> b.told(1, 3), FilmBench.NONE);
            x.put(1, side - 1, side - 1, 0);
            told(x, 1, side * side - 1, 0, 0, 0, 0);
            x.layer(2, 0, 0, 0);
            told(x, 0, side * side - 1, 0, 0, 0, 1);
        }
        // There as RAW, LOST as it is MADE.
        Bench x = Due.bench(new int[][] {{1, 2}, {3, 4}});
        x.layer(3, 0, 0, -2);
        told(x, 0, 4, 0, FilmBench.NONE, FilmBench.NONE, 4);
        x.on(0, false);
        told(x, 0, 0, 10, 1, 4, 0);
    }

    private static void promise21LeastAndGreatest() {
        due.of("what = 0 how many are LOST, 1 the sum of GREYS, 2 the least, 3 the greatest GREY");
        Bench x = Due.bench(Due.flat(6, 6, 63), Due.flat(6, 6, 0), Due.flat(6, 6, -1));
        told(x, 0, 0, 2268, 63, 63, 0);
        told(x, 1, 0, 0, 0, 0, 0);
        x.put(2, 0, 0, 0);
        x.put(2, 5, 5, 63);
        told(x, 2, 34, 63, 0, 63, 0);
        x.put(2, 0, 0, 63);
        x.put(2, 5, 5, 0);
        told(x, 2, 34, 63, 0, 63, 0);
        x.put(2, 5, 5, -1);
        told(x, 2, 35, 63, 63, 63, 0);
    }

    private static void promise21OtherThanRaw() {
        due.of("4 how many SQUARES are other ones than RAW");
        Bench x = Due.bench(new int[][] {{1, 2}, {2, 1}}, new int[][] {{9, -1}, {-1, -1}});
        x.layer(3, 0, 1, 0);
        // LOST 1 / LOST 2.
        told(x, 0, 2, 3, 1, 2, 4);
        x.layer(3, 0, 0, 1);
        // LOST LOST / LOST 1: one is as RAW again.
        told(x, 0, 3, 1, 1, 1, 3);
        x.layer(2, 1, 0, 0);
        told(x, 1, 0, 14, 1, 9, 3);
        x.layer(3, 1, 0, 0);
        told(x, 1, 0, 14, 1, 9, 3);
        x.put(1, 0, 1, 2);
        told(x, 1, 0, 14, 1, 9, 2);
    }

    private static void promise21Refused() {
        due.of("told: NUMBER: there is none such, another what");
        Bench x = three();
        for (int wrong : Due.outside(0, 2)) {
            for (int what = 0; what < 5; what++) {
                int w = what;
                due.refused("told(" + wrong + ", " + what + ")", x, b -> b.told(wrong, w), FilmBench.NUMBER);
            }
        }
        for (int wrong : Due.outside(0, 4)) {
            due.refused("told(0, " + wrong + ")", x, b -> b.told(0, wrong), FilmBench.NUMBER);
            due.refused("told(2, " + wrong + ")", x, b -> b.told(2, wrong), FilmBench.NUMBER);
            due.refused("all LOST: told(0, " + wrong + ")", Due.lost(2, 2, 1), b -> b.told(0, wrong), FilmBench.NUMBER);
        }
        due.is("told(9, 0)", Due.lost(2, 2, 10).told(9, 0), 4);
        due.refused("told(10, 0)", Due.lost(2, 2, 10), b -> b.told(10, 0), FilmBench.NUMBER);
    }

    private static void many(Bench x, int... want) {
        for (int what = 0; what < 9; what++) {
            due.is("many(" + what + ")", x.many(what), want[what]);
        }
    }

    private static void promise22LeastAndMost() {
        due.of("0 HIGH, 1 WIDE, 2 FRAMES, 3 LAYERS, 4 that are ON, 5 RAW SQUARES that are LOST, 6 S, 7 D, 8 E");
        many(new Bench(), 2, 2, 0, 0, 0, 0, 1, 2, 5);
        Bench x = Due.lost(6, 6, 10);
        for (int n = 0; n < 12; n++) {
            x.layer(3, n % 10, 1, 1);
        }
        many(x, 6, 6, 10, 12, 12, 360, 1, 2, 5);
        x.rule(0, 3);
        x.rule(1, 10);
        x.rule(2, 63);
        x.on(0, false);
        x.on(11, false);
        x.put(0, 0, 0, 0);
        x.put(9, 5, 5, 63);
        many(x, 6, 6, 10, 12, 10, 358, 3, 10, 63);
        for (int n = 0; n < 12; n++) {
            x.on(n, false);
        }
        x.rule(0, 0);
        x.rule(1, 0);
        x.rule(2, 1);
        many(x, 6, 6, 10, 12, 0, 358, 0, 0, 1);
        x.reel(2, 6);
        many(x, 2, 6, 0, 0, 0, 0, 0, 0, 1);
        // LOST by a LAYER is not LOST as RAW.
        Bench moved = Due.bench(Due.flat(2, 3, 5));
        moved.layer(3, 0, 3, 3);
        many(moved, 2, 3, 1, 1, 1, 0, 1, 2, 5);
    }

    private static void promise22Refused() {
        due.of("many: NUMBER: another what");
        Bench x = three();
        x.layer(2, 1, 0, 0);
        for (int wrong : Due.outside(0, 8)) {
            due.refused("many(" + wrong + ")", x, b -> b.many(wrong), FilmBench.NUMBER);
            due.refused("new: many(" + wrong + ")", new Bench(), b -> b.many(wrong), FilmBench.NUMBER);
        }
    }
}
