/** Boundary cases of promises 23 and 24. */
public final class EdgesKeptTest {
    private static final Due due = new Due();

    public static void main(String[] args) {
        promise23EmptyAndFull();
        promise23ChangesNothingElse();
        promise23TheLatestAlone();
        promise24NothingIsKept();
        promise24WhatIsKeptStays();
        promise24EveryChangeGoes();
        promise24SizesGoBack();
        promise24FullGoesBack();
        promise24FullBecomesNotFull();
        promise24LayersWithTheirOn();
        promise24RulesStay();
        due.end();
    }

    private static Bench two() {
        Bench x = Due.bench(new int[][] {{1, 2, -1}, {4, 5, 6}}, new int[][] {{7, -1, 9}, {10, 11, 12}});
        x.layer(2, 1, 0, 0);
        x.layer(3, 0, 1, -1);
        x.on(1, false);
        return x;
    }

    /** As much as may be: ten frames of 6 by 6, twelve layers. */
    private static Bench full(int seed) {
        Bench x = new Bench();
        x.reel(6, 6);
        for (int f = 0; f < 10; f++) {
            x.frame();
            for (int y = 0; y < 6; y++) {
                x.row(f, y, 123456789012L * (f + seed) + 98765432L * y);
            }
        }
        for (int n = 0; n < 12; n++) {
            x.layer(n % 4, (n + seed) % 10, n % 4 == 1 ? (n + seed + 1) % 10 : n % 4 - 1, seed % 3);
        }
        return x;
    }

    private static void promise23EmptyAndFull() {
        due.of("THE REEL (RAW FRAMES) and LAYERS are kept: 1");
        due.is("keep() of a new object", new Bench().keep(), 1);
        due.is("keep() without FRAMES", Due.lost(6, 6, 0).keep(), 1);
        due.is("keep() of all that may be", full(1).keep(), 1);
        Bench x = new Bench();
        for (int n = 0; n < 100; n++) {
            due.is("keep()", x.keep(), 1);
        }
        due.is("back()", x.back(), 1);
        due.is("many(2)", x.many(2), 0);
    }

    private static void promise23ChangesNothingElse() {
        due.of("are kept");
        Bench[] benches = {new Bench(), two(), full(3)};
        for (Bench x : benches) {
            int[] before = x.seenNow();
            x.keep();
            due.same("keep() changes nothing that is there", x.seenNow(), before);
            x.back();
            due.same("nor does back() at once", x.seenNow(), before);
        }
    }

    private static void promise23TheLatestAlone() {
        due.of("what was kept latest");
        Bench x = two();
        x.keep();
        x.put(0, 0, 0, 50);
        x.keep();
        int[] latest = x.seenNow();
        x.put(0, 0, 0, 51);
        x.back();
        due.same("the second one", x.seenNow(), latest);
        x.reel(2, 2);
        x.keep();
        due.is("back()", x.back(), 1);
        due.is("the third one has no FRAMES: many(2)", x.many(2), 0);
        due.is("nor LAYERS: many(3)", x.many(3), 0);
        due.is("nor 3 columns: many(1)", x.many(1), 2);
    }

    private static void promise24NothingIsKept() {
        due.of("NONE: nothing is kept");
        due.refused("new: back()", new Bench(), Bench::back, FilmBench.NONE);
        due.refused("two: back()", two(), Bench::back, FilmBench.NONE);
        Bench x = two();
        x.reel(3, 3);
        x.frame();
        due.refused("after reel: back()", x, Bench::back, FilmBench.NONE);
        x.back();
        due.refused("after a refused one: back()", x, Bench::back, FilmBench.NONE);
        due.is("keep()", x.keep(), 1);
        due.is("back()", x.back(), 1);
    }

    private static void promise24WhatIsKeptStays() {
        due.of("They become what was kept latest (which stays): 1");
        Bench x = two();
        x.keep();
        int[] kept = x.seenNow();
        for (int time = 0; time < 4; time++) {
            x.put(1, 1, 2, 60 + time);
            x.row(0, 0, -1L);
            x.on(0, time % 2 == 0);
            x.peel();
            due.is("back()", x.back(), 1);
            due.same("all is back", x.seenNow(), kept);
            due.is("back() at once", x.back(), 1);
            due.same("all is still back", x.seenNow(), kept);
        }
        x.reel(4, 4);
        due.is("a new REEL leaves what is kept: back()", x.back(), 1);
        due.same("all is back", x.seenNow(), kept);
    }

    private static void promise24EveryChangeGoes() {
        due.of("They become what was kept latest");
        Bench x = two();
        x.keep();
        int[] kept = x.seenNow();
        Runnable[] changes = {
            () -> x.reel(2, 3), x::frame, () -> x.again(1, 5), () -> x.put(0, 0, 0, -1), () -> x.put(1, 0, 1, 0),
            () -> x.row(1, 1, 0L), () -> x.layer(0, 0, 0, 0), () -> x.on(0, false), () -> x.on(1, true), x::peel};
        for (int n = 0; n < changes.length; n++) {
            changes[n].run();
            due.isTrue("change " + n + " is seen", !java.util.Arrays.equals(x.seenNow(), kept));
            due.is("back()", x.back(), 1);
            due.same("change " + n + " is gone", x.seenNow(), kept);
        }
    }

    private static void promise24SizesGoBack() {
        due.of("THE REEL (RAW FRAMES) and LAYERS");
        for (int high = 2; high <= 6; high += 2) {
            for (int wide = 2; wide <= 6; wide += 2) {
                Bench x = Due.bench(Due.flat(high, wide, 21));
                x.put(0, high - 1, wide - 1, 3);
                x.keep();
                int[] kept = x.seenNow();
                x.reel(8 - high, 8 - wide);
                x.frame();
                for (int y = 0; y < 8 - high; y++) {
                    x.row(0, y, 0L);
                }
                x.back();
                due.same(high + " by " + wide + " is back", x.seenNow(), kept);
                due.is("beyond it: raw", x.raw(0, high, 0), FilmBench.NOTHING);
                due.is("beyond it: raw", x.raw(0, 0, wide), FilmBench.NOTHING);
            }
        }
    }

    private static void promise24FullGoesBack() {
        due.of("They become what was kept latest");
        Bench x = full(1);
        x.keep();
        int[] kept = x.seenNow();
        x.reel(2, 2);
        due.is("back() to all that may be", x.back(), 1);
        due.same("ten FRAMES and twelve LAYERS", x.seenNow(), kept);
        due.refused("frame()", x, Bench::frame, FilmBench.FULL);
        due.refused("layer(2, 0, 0, 0)", x, b -> b.layer(2, 0, 0, 0), FilmBench.FULL);
        for (int f = 0; f < 10; f++) {
            for (int y = 0; y < 6; y++) {
                x.row(f, y, 0L);
            }
        }
        for (int n = 0; n < 12; n++) {
            x.peel();
        }
        x.back();
        due.same("all SQUARES and LAYERS", x.seenNow(), kept);
        Bench empty = new Bench();
        empty.keep();
        Due.addFrame(empty, Due.flat(2, 2, 7));
        empty.layer(2, 0, 0, 0);
        empty.back();
        due.same("back to nothing", empty.seenNow(), new Bench().seenNow());
        due.is("frame()", empty.frame(), 0);
        due.raw(empty, 0, Due.flat(2, 2, -1));
    }

    private static void promise24FullBecomesNotFull() {
        due.of("FULL, and no more after back");
        Bench x = Due.lost(2, 2, 9);
        for (int n = 0; n < 11; n++) {
            x.layer(2, 8, 0, 0);
        }
        x.keep();
        x.frame();
        x.layer(2, 9, 0, 0);
        due.refused("frame()", x, Bench::frame, FilmBench.FULL);
        due.refused("layer(2, 9, 0, 0)", x, b -> b.layer(2, 9, 0, 0), FilmBench.FULL);
        x.back();
        due.refused("layer(2, 9, 0, 0)", x, b -> b.layer(2, 9, 0, 0), FilmBench.NUMBER);
        due.refused("raw(9, 0, 0)", x, b -> b.raw(9, 0, 0), FilmBench.NOTHING);
        due.refused("of(11, 0)", x, b -> b.of(11, 0), FilmBench.NOTHING);
        due.is("frame()", x.frame(), 9);
        due.is("layer(2, 9, 0, 0)", x.layer(2, 9, 0, 0), 11);
    }

    private static void promise24LayersWithTheirOn() {
        due.of("LAYERS are kept: each of a FRAME and a KIND, ON or off");
        Bench x = Due.lost(2, 2, 3);
        for (int n = 0; n < 12; n++) {
            x.layer(n % 4, n % 3, n % 4 == 1 ? (n + 1) % 3 : 3 - n % 4, -1);
            x.on(n, n % 2 == 0);
        }
        x.keep();
        int[] kept = x.seenNow();
        for (int n = 0; n < 12; n++) {
            x.on(n, n % 2 == 1);
        }
        x.back();
        due.same("ON and off", x.seenNow(), kept);
        while (x.many(3) > 0) {
            x.peel();
        }
        for (int n = 0; n < 12; n++) {
            x.layer(3, 2 - n % 3, -3, 3);
        }
        x.back();
        due.same("KIND, FRAME, a and b", x.seenNow(), kept);
    }

    private static void promise24RulesStay() {
        due.of("THE REEL (RAW FRAMES) and LAYERS are kept: not S, D and E");
        Bench x = two();
        x.rule(0, 2);
        x.rule(1, 4);
        x.rule(2, 8);
        x.keep();
        x.rule(0, 3);
        x.rule(1, 10);
        x.rule(2, 63);
        x.back();
        due.is("S: many(6)", x.many(6), 3);
        due.is("D: many(7)", x.many(7), 10);
        due.is("E: many(8)", x.many(8), 63);
        due.is("rule(0, 0)", x.rule(0, 0), 3);
    }
}
