import java.util.LinkedHashMap;
import java.util.Map;
import java.util.function.ToIntFunction;

/** Boundary cases of "What it is", of the constants, of refused calls as a whole, and of promise 1. */
public final class EdgesBenchTest {
    private static final Due due = new Due();

    public static void main(String[] args) {
        constants();
        theLastOf512Calls();
        manyOfOneCall();
        refusedCallsOfABusyBench();
        firstNamedRefusalIsAnswered();
        questionsChangeNothing();
        benchesAreApart();
        promise1Sizes();
        promise1AllThatNeedsAFrame();
        promise1AllThatNeedsALayer();
        promise1NothingIsKept();
        due.end();
    }

    private static void constants() {
        due.of("NUMBER = -1, FULL = -2, NONE = -3, NOTHING = -1000");
        due.is("NUMBER", FilmBench.NUMBER, -1);
        due.is("FULL", FilmBench.FULL, -2);
        due.is("NONE", FilmBench.NONE, -3);
        due.is("NOTHING", FilmBench.NOTHING, -1000);
        // Only constants of the language may stand behind case.
        switch (new Bench().raw(0, 0, 0)) {
            case FilmBench.NOTHING -> due.isTrue("NOTHING", true);
            case FilmBench.NUMBER, FilmBench.FULL, FilmBench.NONE -> due.isTrue("another one", false);
            default -> due.isTrue("no constant", false);
        }
    }

    /** Three frames of 2 by 3 with all four kinds of layers, and something older kept. */
    private static Bench busy() {
        Bench x = Due.bench(
                new int[][] {{10, 20, 30}, {-1, 5, 6}},
                new int[][] {{40, -1, 31}, {-1, 50, -1}},
                new int[][] {{11, 21, 33}, {7, 6, -1}});
        x.layer(3, 1, 1, -1);
        x.keep();
        x.put(0, 0, 1, 22);
        x.layer(0, 1, 0, 0);
        x.layer(1, 1, 2, 0);
        x.layer(2, 1, 0, 0);
        x.on(2, false);
        return x;
    }

    private static Map<String, ToIntFunction<Bench>> oneOfEach() {
        Map<String, ToIntFunction<Bench>> calls = new LinkedHashMap<>();
        calls.put("reel(3, 2)", x -> x.reel(3, 2));
        calls.put("frame()", Bench::frame);
        calls.put("again(1, 9)", x -> x.again(1, 9));
        calls.put("put(0, 0, 1, 8)", x -> x.put(0, 0, 1, 8));
        calls.put("row(0, 1, 0)", x -> x.row(0, 1, 0L));
        calls.put("raw(0, 0, 1)", x -> x.raw(0, 0, 1));
        calls.put("rule(2, 7)", x -> x.rule(2, 7));
        calls.put("miss(2, 0, 0, 0)", x -> x.miss(2, 0, 0, 0));
        calls.put("shift(2, 0)", x -> x.shift(2, 0));
        calls.put("drift(2, 1)", x -> x.drift(2, 1));
        calls.put("path(2, 1)", x -> x.path(2, 1));
        calls.put("bends(0, 1)", x -> x.bends(0, 1));
        calls.put("dust(1)", x -> x.dust(1));
        calls.put("layer(3, 0, 3, -3)", x -> x.layer(3, 0, 3, -3));
        calls.put("on(2, true)", x -> x.on(2, true));
        calls.put("peel()", Bench::peel);
        calls.put("made(1, 1, 2)", x -> x.made(1, 1, 2));
        calls.put("changed(0)", x -> x.changed(0));
        calls.put("of(0, 3)", x -> x.of(0, 3));
        calls.put("told(1, 1)", x -> x.told(1, 1));
        calls.put("many(5)", x -> x.many(5));
        calls.put("keep()", Bench::keep);
        calls.put("back()", Bench::back);
        return calls;
    }

    private static void theLastOf512Calls() {
        due.of("An object is used for at most 512 calls after it has been made");
        for (Map.Entry<String, ToIntFunction<Bench>> call : oneOfEach().entrySet()) {
            int want = call.getValue().applyAsInt(busy());
            Bench late = busy();
            while (late.callsSoFar() < 511) {
                late.told(1, late.callsSoFar() % 5);
            }
            due.is("the 512th call: " + call.getKey(), call.getValue().applyAsInt(late), want);
        }
        due.is("all calls of the face are here", oneOfEach().size(), 23);
    }

    private static void manyOfOneCall() {
        due.of("An object is used for at most 512 calls after it has been made");
        Bench kept = new Bench();
        Bench full = new Bench();
        Bench layered = Due.lost(2, 2, 1);
        Bench put = Due.lost(6, 6, 1);
        for (int n = 0; n < 510; n++) {
            due.is("keep()", kept.keep(), 1);
            due.is("frame()", full.frame(), n < 10 ? n : FilmBench.FULL);
            due.is("put(0, 5, 5, " + n % 64 + ")", put.put(0, 5, 5, n % 64), n == 0 ? -1 : (n - 1) % 64);
            due.is("layer(2, 0, 0, 0)", layered.layer(2, 0, 0, 0), n < 12 ? n : FilmBench.FULL);
        }
        due.is("back()", kept.back(), 1);
        due.is("10 frames", full.many(2), 10);
    }

    private static void refusedCallsOfABusyBench() {
        due.of("A call that is refused changes nothing");
        Bench x = busy();
        due.refused("reel(7, 2)", x, b -> b.reel(7, 2), FilmBench.NUMBER);
        due.refused("again(3, 0)", x, b -> b.again(3, 0), FilmBench.NUMBER);
        due.refused("put(0, 0, 0, 64)", x, b -> b.put(0, 0, 0, 64), FilmBench.NOTHING);
        due.refused("row(0, 2, 0)", x, b -> b.row(0, 2, 0L), FilmBench.NUMBER);
        due.refused("raw(3, 0, 0)", x, b -> b.raw(3, 0, 0), FilmBench.NOTHING);
        due.refused("rule(0, 4)", x, b -> b.rule(0, 4), FilmBench.NUMBER);
        due.refused("miss(0, 0, 0, 0)", x, b -> b.miss(0, 0, 0, 0), FilmBench.NUMBER);
        due.refused("miss(1, 2, 1, 0)", x, b -> b.miss(1, 2, 1, 0), FilmBench.NONE);
        due.refused("shift(0, 0)", x, b -> b.shift(0, 0), FilmBench.NOTHING);
        due.refused("drift(3, 0)", x, b -> b.drift(3, 0), FilmBench.NOTHING);
        due.refused("path(0, 2)", x, b -> b.path(0, 2), FilmBench.NOTHING);
        due.refused("bends(2, 0)", x, b -> b.bends(2, 0), FilmBench.NUMBER);
        due.refused("dust(3)", x, b -> b.dust(3), FilmBench.NUMBER);
        due.refused("layer(4, 0, 0, 0)", x, b -> b.layer(4, 0, 0, 0), FilmBench.NUMBER);
        due.refused("on(4, false)", x, b -> b.on(4, false), FilmBench.NUMBER);
        due.refused("made(0, 2, 0)", x, b -> b.made(0, 2, 0), FilmBench.NOTHING);
        due.refused("changed(4)", x, b -> b.changed(4), FilmBench.NUMBER);
        due.refused("of(0, 5)", x, b -> b.of(0, 5), FilmBench.NOTHING);
        due.refused("told(1, 5)", x, b -> b.told(1, 5), FilmBench.NUMBER);
        due.refused("many(9)", x, b -> b.many(9), FilmBench.NUMBER);
        Bench full = fullBench();
        due.refused("frame()", full, Bench::frame, FilmBench.FULL);
        due.refused("again(0, 0)", full, b -> b.again(0, 0), FilmBench.FULL);
        due.refused("layer(0, 0, 0, 0)", full, b -> b.layer(0, 0, 0, 0), FilmBench.FULL);
        Bench bare = Due.bench(new int[][] {{1, 2}, {3, -1}});
        due.refused("peel()", bare, Bench::peel, FilmBench.NONE);
        due.refused("back()", bare, Bench::back, FilmBench.NONE);
        bare.put(0, 0, 0, -1);
        bare.put(0, 0, 1, -1);
        bare.put(0, 1, 0, -1);
        due.refused("told(0, 2)", bare, b -> b.told(0, 2), FilmBench.NONE);
        due.refused("told(0, 3)", bare, b -> b.told(0, 3), FilmBench.NONE);
    }

    /** Ten frames of 2 by 2, the first ones told, and twelve layers. */
    private static Bench fullBench() {
        Bench x = Due.bench(new int[][] {{1, 2}, {3, -1}}, new int[][] {{60, 50}, {-1, 40}});
        while (x.many(2) < 10) {
            x.again(x.many(2) % 2, 3);
        }
        for (int n = 0; n < 12; n++) {
            x.layer(n % 4, n % 10, n % 4 == 1 ? 0 : 1, 1);
        }
        return x;
    }

    private static void firstNamedRefusalIsAnswered() {
        due.of("Of several refusals that a call names the first one named is answered");
        Bench full = fullBench();
        due.is("12 layers", full.many(3), 12);
        due.refused("again(10, 0)", full, b -> b.again(10, 0), FilmBench.NUMBER);
        due.refused("again(-1, 0)", full, b -> b.again(-1, 0), FilmBench.NUMBER);
        due.refused("again(0, 64)", full, b -> b.again(0, 64), FilmBench.NUMBER);
        due.refused("again(0, -64)", full, b -> b.again(0, -64), FilmBench.NUMBER);
        due.refused("again(9, 63)", full, b -> b.again(9, 63), FilmBench.FULL);
        due.refused("layer(4, 0, 0, 0)", full, b -> b.layer(4, 0, 0, 0), FilmBench.NUMBER);
        due.refused("layer(-1, 0, 0, 0)", full, b -> b.layer(-1, 0, 0, 0), FilmBench.NUMBER);
        due.refused("layer(2, 10, 0, 0)", full, b -> b.layer(2, 10, 0, 0), FilmBench.NUMBER);
        due.refused("layer(1, 3, 3, 0)", full, b -> b.layer(1, 3, 3, 0), FilmBench.NUMBER);
        due.refused("layer(1, 3, 10, 0)", full, b -> b.layer(1, 3, 10, 0), FilmBench.NUMBER);
        due.refused("layer(3, 0, 4, 0)", full, b -> b.layer(3, 0, 4, 0), FilmBench.NUMBER);
        due.refused("layer(3, 0, 0, -4)", full, b -> b.layer(3, 0, 0, -4), FilmBench.NUMBER);
        due.refused("layer(3, 0, 3, -3)", full, b -> b.layer(3, 0, 3, -3), FilmBench.FULL);
        due.refused("layer(1, 0, 9, 99)", full, b -> b.layer(1, 0, 9, 99), FilmBench.FULL);
        Bench lost = Due.lost(2, 2, 2);
        due.refused("miss(1, 0, 0, 2)", lost, b -> b.miss(1, 0, 0, 2), FilmBench.NUMBER);
        due.refused("miss(1, 3, 0, 0)", lost, b -> b.miss(1, 3, 0, 0), FilmBench.NUMBER);
        due.refused("miss(1, 0, -3, 1)", lost, b -> b.miss(1, 0, -3, 1), FilmBench.NUMBER);
        due.refused("miss(0, 0, 0, 0)", lost, b -> b.miss(0, 0, 0, 0), FilmBench.NUMBER);
        due.refused("miss(2, 0, 0, 0)", lost, b -> b.miss(2, 0, 0, 0), FilmBench.NUMBER);
        due.refused("miss(1, 2, -2, 1)", lost, b -> b.miss(1, 2, -2, 1), FilmBench.NONE);
        due.refused("told(0, 5)", lost, b -> b.told(0, 5), FilmBench.NUMBER);
        due.refused("told(2, 2)", lost, b -> b.told(2, 2), FilmBench.NUMBER);
        due.refused("told(1, 3)", lost, b -> b.told(1, 3), FilmBench.NONE);
    }

    private static void questionsChangeNothing() {
        due.of("raw frames that are never touched");
        Map<String, ToIntFunction<Bench>> calls = oneOfEach();
        for (String question : new String[] {
            "raw(0, 0, 1)", "miss(2, 0, 0, 0)", "shift(2, 0)", "drift(2, 1)", "path(2, 1)", "bends(0, 1)", "dust(1)",
            "made(1, 1, 2)", "changed(0)", "of(0, 3)", "told(1, 1)", "many(5)"}) {
            Bench x = busy();
            int[] before = x.seen();
            int first = calls.get(question).applyAsInt(x);
            due.same(question + " changes nothing", x.seen(), before);
            due.is(question + " once more", calls.get(question).applyAsInt(x), first);
        }
    }

    private static void benchesAreApart() {
        due.of("A new object");
        Bench one = busy();
        int[] before = one.seen();
        FilmBench held = new FilmBench();
        held.frame();
        held.put(0, 1, 1, 17);
        held.rule(0, 3);
        held.layer(3, 0, 1, 1);
        held.keep();
        FilmBench other = new FilmBench();
        due.is("another one has no frames", other.many(2), 0);
        due.is("nor layers", other.many(3), 0);
        due.is("nor another S", other.many(6), 1);
        due.is("nor something kept", other.back(), FilmBench.NONE);
        other.reel(6, 6);
        due.is("the first one stays", held.raw(0, 1, 1), 17);
        due.is("with its size", held.many(0), 2);
        due.same("busy ones are alike", busy().seen(), before);
    }

    private static void promise1Sizes() {
        due.of("THE REEL is 2 by 2, without FRAMES; no LAYERS; nothing is kept");
        Bench x = new Bench();
        int[] want = {2, 2, 0, 0, 0, 0, 1, 2, 5};
        for (int what = 0; what < want.length; what++) {
            due.is("many(" + what + ")", x.many(what), want[what]);
        }
        due.is("bends(0, 0)", x.bends(0, 0), 0);
        due.is("bends(1, 1)", x.bends(1, 1), 0);
        due.is("frame()", x.frame(), 0);
        due.raw(x, 0, new int[][] {{-1, -1}, {-1, -1}});
        due.is("raw(0, 0, 2)", x.raw(0, 0, 2), FilmBench.NOTHING);
        due.is("raw(0, 2, 0)", x.raw(0, 2, 0), FilmBench.NOTHING);
        due.is("row(0, 1, 0)", x.row(0, 1, 0L), 2);
        due.is("row(0, 2, 0)", x.row(0, 2, 0L), FilmBench.NUMBER);
    }

    private static void promise1AllThatNeedsAFrame() {
        due.of("without FRAMES");
        Bench x = new Bench();
        due.refused("again(0, 0)", x, b -> b.again(0, 0), FilmBench.NUMBER);
        due.refused("put(0, 0, 0, 0)", x, b -> b.put(0, 0, 0, 0), FilmBench.NOTHING);
        due.refused("row(0, 0, 0)", x, b -> b.row(0, 0, 0L), FilmBench.NUMBER);
        due.refused("raw(0, 0, 0)", x, b -> b.raw(0, 0, 0), FilmBench.NOTHING);
        due.refused("miss(0, 0, 0, 0)", x, b -> b.miss(0, 0, 0, 0), FilmBench.NUMBER);
        due.refused("miss(1, 0, 0, 0)", x, b -> b.miss(1, 0, 0, 0), FilmBench.NUMBER);
        due.refused("shift(0, 0)", x, b -> b.shift(0, 0), FilmBench.NOTHING);
        due.refused("shift(1, 0)", x, b -> b.shift(1, 0), FilmBench.NOTHING);
        due.refused("drift(0, 0)", x, b -> b.drift(0, 0), FilmBench.NOTHING);
        due.refused("path(0, 1)", x, b -> b.path(0, 1), FilmBench.NOTHING);
        due.refused("dust(0)", x, b -> b.dust(0), FilmBench.NUMBER);
        for (int kind = 0; kind < 4; kind++) {
            int k = kind;
            due.refused("layer(" + kind + ", 0, 1, 1)", x, b -> b.layer(k, 0, 1, 1), FilmBench.NUMBER);
        }
        due.refused("made(0, 0, 0)", x, b -> b.made(0, 0, 0), FilmBench.NOTHING);
        due.refused("told(0, 0)", x, b -> b.told(0, 0), FilmBench.NUMBER);
    }

    private static void promise1AllThatNeedsALayer() {
        due.of("no LAYERS");
        Bench x = new Bench();
        due.refused("on(0, true)", x, b -> b.on(0, true), FilmBench.NUMBER);
        due.refused("on(0, false)", x, b -> b.on(0, false), FilmBench.NUMBER);
        due.refused("peel()", x, Bench::peel, FilmBench.NONE);
        due.refused("changed(0)", x, b -> b.changed(0), FilmBench.NUMBER);
        due.refused("of(0, 0)", x, b -> b.of(0, 0), FilmBench.NOTHING);
    }

    private static void promise1NothingIsKept() {
        due.of("nothing is kept");
        due.refused("back()", new Bench(), Bench::back, FilmBench.NONE);
        Bench x = busy();
        Bench without = Due.bench(new int[][] {{1, 2}, {3, 4}});
        due.refused("back()", without, Bench::back, FilmBench.NONE);
        due.is("back() of one that kept", x.back(), 1);
    }
}
