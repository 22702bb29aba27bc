/** Promises 23 and 24: what is kept, and the way back to it. */
public final class KeptTest {
    private static final Due due = new Due();

    public static void main(String[] args) {
        promise23Keep();
        promise24BackWithoutKept();
        promise24Back();
        promise24BackToAnotherReel();
        promise24BackOfFullBench();
        promise24RulesAreNotKept();
        due.end();
    }

    private static Bench two() {
        Bench x = Due.bench(new int[][] {{1, 2, -1}, {4, 5, 6}}, new int[][] {{7, -1, 9}, {10, 11, 12}});
        x.layer(2, 1, 0, 0);
        x.layer(3, 0, 1, -1);
        x.on(1, false);
        return x;
    }

    private static void promise23Keep() {
        Bench x = two();
        int[] before = x.seenNow();
        due.is("keep()", x.keep(), 1);
        due.same("keep changes nothing that is seen", x.seenNow(), before);
        due.is("keep() again", x.keep(), 1);
        x.put(0, 0, 0, 50);
        due.is("keep() of the later", x.keep(), 1);
        x.put(0, 0, 0, 51);
        x.back();
        due.is("the latest is kept", x.raw(0, 0, 0), 50);
        due.is("keep() of an empty bench", new Bench().keep(), 1);
    }

    private static void promise24BackWithoutKept() {
        Bench x = two();
        int[] before = x.seen();
        due.is("back()", x.back(), FilmBench.NONE);
        due.same("a refused back changes nothing", x.seen(), before);
    }

    private static void promise24Back() {
        Bench x = two();
        x.keep();
        int[] kept = x.seen();
        for (int time = 0; time < 3; time++) {
            x.put(0, 0, 0, 60 + time);
            x.row(1, 1, -1L);
            x.again(0, 1);
            x.on(1, true);
            x.on(0, false);
            x.layer(0, 0, 0, 0);
            due.is("back()", x.back(), 1);
            due.same("all is back", x.seen(), kept);
            x.peel();
            x.peel();
            x.layer(0, 0, 0, 0);
            due.is("back()", x.back(), 1);
            due.same("the layers are back", x.seen(), kept);
        }
    }

    private static void promise24BackToAnotherReel() {
        Bench x = two();
        x.keep();
        int[] kept = x.seen();
        x.reel(6, 5);
        x.frame();
        x.row(0, 5, 0L);
        due.is("back()", x.back(), 1);
        due.same("the reel is back", x.seen(), kept);
        Bench empty = new Bench();
        empty.keep();
        empty.reel(3, 3);
        empty.frame();
        empty.layer(0, 0, 0, 0);
        due.is("back()", empty.back(), 1);
        due.is("2 high", empty.many(0), 2);
        due.is("2 wide", empty.many(1), 2);
        due.is("no frames", empty.many(2), 0);
        due.is("no layers", empty.many(3), 0);
    }

    private static void promise24BackOfFullBench() {
        Bench x = new Bench();
        x.reel(6, 6);
        for (int f = 0; f < 10; f++) {
            x.frame();
            for (int y = 0; y < 6; y++) {
                x.row(f, y, 123456789012L * (f + 1) + 98765432L * y);
            }
        }
        for (int n = 0; n < 12; n++) {
            x.layer(3, n % 10, n % 7 - 3, 3 - n % 5);
        }
        x.keep();
        int[] kept = x.seen();
        for (int f = 0; f < 10; f++) {
            for (int y = 0; y < 6; y++) {
                x.row(f, y, 0L);
            }
        }
        for (int n = 0; n < 12; n++) {
            x.peel();
        }
        for (int n = 0; n < 12; n++) {
            x.layer(0, 9 - n % 10, 0, 0);
            x.on(n, false);
        }
        x.back();
        due.same("all frames and layers are back", x.seen(), kept);
    }

    private static void promise24RulesAreNotKept() {
        Bench x = two();
        x.rule(0, 2);
        x.keep();
        x.rule(0, 3);
        x.rule(1, 7);
        x.rule(2, 9);
        x.back();
        due.is("S", x.many(6), 3);
        due.is("D", x.many(7), 7);
        due.is("E", x.many(8), 9);
    }
}
