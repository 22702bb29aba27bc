import java.util.ArrayList;
import java.util.List;
import java.util.function.ToIntFunction;

/**
 * A FilmBench as the tests use it. It notes its calls, so that no test leans on an object's 513th
 * call (which is free), and so that all of its state can be asked of twins that ran the same calls.
 */
final class Bench {
    private static final int MOST_CALLS = 512;

    private final FilmBench bench = new FilmBench();
    private final List<ToIntFunction<FilmBench>> calls = new ArrayList<>();

    int reel(int high, int wide) {
        return call(b -> b.reel(high, wide));
    }

    int frame() {
        return call(FilmBench::frame);
    }

    int again(int frame, int c) {
        return call(b -> b.again(frame, c));
    }

    int put(int frame, int y, int x, int grey) {
        return call(b -> b.put(frame, y, x, grey));
    }

    int row(int frame, int y, long greys) {
        return call(b -> b.row(frame, y, greys));
    }

    int raw(int frame, int y, int x) {
        return call(b -> b.raw(frame, y, x));
    }

    int rule(int what, int v) {
        return call(b -> b.rule(what, v));
    }

    int miss(int frame, int dx, int dy, int what) {
        return call(b -> b.miss(frame, dx, dy, what));
    }

    int shift(int frame, int what) {
        return call(b -> b.shift(frame, what));
    }

    int drift(int frame, int axis) {
        return call(b -> b.drift(frame, axis));
    }

    int path(int frame, int axis) {
        return call(b -> b.path(frame, axis));
    }

    int bends(int axis, int what) {
        return call(b -> b.bends(axis, what));
    }

    int dust(int frame) {
        return call(b -> b.dust(frame));
    }

    int layer(int kind, int frame, int a, int b) {
        return call(bench -> bench.layer(kind, frame, a, b));
    }

    int on(int layer, boolean is) {
        return call(b -> b.on(layer, is));
    }

    int peel() {
        return call(FilmBench::peel);
    }

    int made(int frame, int y, int x) {
        return call(b -> b.made(frame, y, x));
    }

    int changed(int layer) {
        return call(b -> b.changed(layer));
    }

    int of(int layer, int what) {
        return call(b -> b.of(layer, what));
    }

    int told(int frame, int what) {
        return call(b -> b.told(frame, what));
    }

    int many(int what) {
        return call(b -> b.many(what));
    }

    int keep() {
        return call(FilmBench::keep);
    }

    int back() {
        return call(FilmBench::back);
    }

    int callsSoFar() {
        return calls.size();
    }

    private int call(ToIntFunction<FilmBench> call) {
        if (calls.size() == MOST_CALLS) {
            throw new IllegalStateException("a test calls one object more than 512 times");
        }
        calls.add(call);
        return call.applyAsInt(bench);
    }

    /** All that can be asked of this bench now, and all that could be after back(). It is not called for it. */
    int[] seen() {
        Twins now = new Twins(calls);
        now.askAll();
        List<ToIntFunction<FilmBench>> andBack = new ArrayList<>(calls);
        andBack.add(FilmBench::back);
        Twins kept = new Twins(andBack);
        kept.answers.add(new Twins(calls).ask(FilmBench::back));
        kept.askAll();
        now.answers.addAll(kept.answers);
        return now.answers.stream().mapToInt(Integer::intValue).toArray();
    }

    /** All that can be asked of this bench now, without what is kept. */
    int[] seenNow() {
        Twins now = new Twins(calls);
        now.askAll();
        return now.answers.stream().mapToInt(Integer::intValue).toArray();
    }

    /** New objects on which the same calls are run, each asked until its 512 calls are used. */
    private static final class Twins {
        private final List<ToIntFunction<FilmBench>> calls;
        private final List<Integer> answers = new ArrayList<>();
        private FilmBench twin = null;
        private int used = 0;

        Twins(List<ToIntFunction<FilmBench>> calls) {
            if (calls.size() >= MOST_CALLS) {
                throw new IllegalStateException("no call is left to ask by");
            }
            this.calls = calls;
        }

        int ask(ToIntFunction<FilmBench> question) {
            if (twin == null || used == MOST_CALLS) {
                twin = new FilmBench();
                for (ToIntFunction<FilmBench> call : calls) {
                    call.applyAsInt(twin);
                }
                used = calls.size();
            }
            used++;
            int answer = question.applyAsInt(twin);
            answers.add(answer);
            return answer;
        }

        void askAll() {
            int[] many = new int[9];
            for (int what = 0; what < 9; what++) {
                int w = what;
                many[what] = ask(b -> b.many(w));
            }
            for (int frame = 0; frame < many[2]; frame++) {
                askFrame(frame, many[0], many[1]);
            }
            for (int layer = 0; layer < many[3]; layer++) {
                int n = layer;
                for (int what = 0; what < 5; what++) {
                    int w = what;
                    ask(b -> b.of(n, w));
                }
                ask(b -> b.changed(n));
            }
            for (int what = 0; what < 4; what++) {
                int w = what;
                ask(b -> b.bends(w / 2, w % 2));
            }
        }

        private void askFrame(int f, int high, int wide) {
            for (int place = 0; place < high * wide; place++) {
                int y = place / wide;
                int x = place % wide;
                ask(b -> b.raw(f, y, x));
                ask(b -> b.made(f, y, x));
            }
            for (int what = 0; what < 5; what++) {
                int w = what;
                ask(b -> b.told(f, w));
            }
            for (int axis = 0; axis < 2; axis++) {
                int a = axis;
                ask(b -> b.shift(f, a));
                ask(b -> b.path(f, a));
            }
            ask(b -> b.dust(f));
        }
    }
}
