import java.util.ArrayList;
import java.util.Collections;
import java.util.Comparator;
import java.util.HashMap;
import java.util.List;
import java.util.Map;

/** A slow second program for the document, written from its words and not from FilmBench. */
final class Model {
    private static final int NUMBER = -1;
    private static final int FULL = -2;
    private static final int NONE = -3;
    private static final int NOTHING = -1000;

    private record Layer(int kind, int frame, int a, int b, boolean on) { }

    private record Shift(int dx, int dy, long sum, long pairs) { }

    private record Path(int bends, int strays, List<Integer> p) { }

    private int high = 2;
    private int wide = 2;
    private List<int[][]> frames = new ArrayList<>();
    private List<Layer> layers = new ArrayList<>();
    private final int[] rules = {1, 2, 5};
    private int keptHigh;
    private int keptWide;
    private List<int[][]> keptFrames;
    private List<Layer> keptLayers;

    int reel(int h, int w) {
        if (h < 2 || h > 6 || w < 2 || w > 6) return NUMBER;
        high = h;
        wide = w;
        frames.clear();
        layers.clear();
        return h * w;
    }

    int frame() {
        if (frames.size() == 10) return FULL;
        int[][] squares = new int[high][wide];
        for (int[] line : squares) java.util.Arrays.fill(line, -1);
        frames.add(squares);
        return frames.size() - 1;
    }

    int again(int f, int c) {
        if (noFrame(f) || c < -63 || c > 63) return NUMBER;
        if (frames.size() == 10) return FULL;
        int[][] squares = copy(frames.get(f));
        for (int[] line : squares) {
            for (int x = 0; x < wide; x++) {
                if (line[x] >= 0) line[x] = Math.min(63, Math.max(0, line[x] + c));
            }
        }
        frames.add(squares);
        return frames.size() - 1;
    }

    int put(int f, int y, int x, int grey) {
        if (noFrame(f) || noSquare(y, x) || grey < -1 || grey > 63) return NOTHING;
        int was = frames.get(f)[y][x];
        frames.get(f)[y][x] = grey;
        return was;
    }

    int row(int f, int y, long greys) {
        if (noFrame(f) || noSquare(y, 0)) return NUMBER;
        int there = 0;
        long rest = greys;
        for (int x = 0; x < wide; x++) {
            int v = (int) Math.floorMod(rest, 128L);
            rest = Math.floorDiv(rest, 128L);
            frames.get(f)[y][x] = v >= 64 ? -1 : v;
            there += v >= 64 ? 0 : 1;
        }
        return there;
    }

    int raw(int f, int y, int x) {
        return noFrame(f) || noSquare(y, x) ? NOTHING : frames.get(f)[y][x];
    }

    int rule(int what, int v) {
        if (what < 0 || what > 2) return NUMBER;
        if (what == 0 && (v < 0 || v > 3)) return NUMBER;
        if (what == 1 && (v < 0 || v > 10)) return NUMBER;
        if (what == 2 && (v < 1 || v > 63)) return NUMBER;
        int was = rules[what];
        rules[what] = v;
        return was;
    }

    int miss(int f, int dx, int dy, int what) {
        if (noFrame(f) || f == 0 || Math.abs((long) dx) > 2 || Math.abs((long) dy) > 2 || what < 0 || what > 1) return NUMBER;
        Shift s = measured(f, dx, dy);
        if (s == null) return NONE;
        for (long d = s.pairs; ; d--) {
            if (s.pairs % d == 0 && s.sum % d == 0) {
                return (int) ((what == 0 ? s.sum : s.pairs) / d);
            }
        }
    }

    private Shift measured(int f, int dx, int dy) {
        long sum = 0;
        long pairs = 0;
        for (int y = 0; y < high; y++) {
            for (int x = 0; x < wide; x++) {
                if (noSquare(y + dy, x + dx)) continue;
                int a = frames.get(f - 1)[y][x];
                int b = frames.get(f)[y + dy][x + dx];
                if (a < 0 || b < 0) continue;
                sum += Math.abs(a - b);
                pairs++;
            }
        }
        return 4 * pairs < high * wide ? null : new Shift(dx, dy, sum, pairs);
    }

    private Shift best(int f) {
        List<Shift> all = new ArrayList<>();
        for (int dx = 2; dx >= -2; dx--) {
            for (int dy = 2; dy >= -2; dy--) {
                Shift s = measured(f, dx, dy);
                if (s != null) all.add(s);
            }
        }
        if (all.isEmpty()) return new Shift(0, 0, 0, 0);
        Comparator<Shift> byMiss = (s, t) -> Long.compare(s.sum * t.pairs, t.sum * s.pairs);
        return Collections.min(all, byMiss
                .thenComparingInt(s -> Math.abs(s.dx) + Math.abs(s.dy))
                .thenComparingInt(s -> s.dy)
                .thenComparingInt(s -> s.dx));
    }

    int shift(int f, int what) {
        if (noFrame(f) || f == 0 || what < 0 || what > 1) return NOTHING;
        return what == 0 ? best(f).dx : best(f).dy;
    }

    int drift(int f, int axis) {
        if (noFrame(f) || axis < 0 || axis > 1) return NOTHING;
        return f == 0 ? 0 : drift(f - 1, axis) + shift(f, axis);
    }

    int path(int f, int axis) {
        if (noFrame(f) || axis < 0 || axis > 1) return NOTHING;
        return best(drifts(axis)).p.get(f);
    }

    int bends(int axis, int what) {
        if (axis < 0 || axis > 1 || what < 0 || what > 1) return NUMBER;
        Path best = best(drifts(axis));
        return what == 0 ? best.bends : best.strays;
    }

    private int[] drifts(int axis) {
        int[] drifts = new int[frames.size()];
        for (int f = 1; f < drifts.length; f++) drifts[f] = drifts[f - 1] + shift(f, axis);
        return drifts;
    }

    /** From the first frame on: of all beginnings with the same last two numbers the best one. */
    private Path best(int[] drifts) {
        List<Path> open = List.of(new Path(0, 0, List.of()));
        for (int drift : drifts) {
            Map<List<Integer>, Path> best = new HashMap<>();
            for (Path path : open) {
                for (int p = drift - rules[0]; p <= drift + rules[0]; p++) {
                    Path longer = with(path, p, Math.abs(p - drift));
                    int n = longer.p.size();
                    best.merge(longer.p.subList(Math.max(0, n - 2), n), longer, Model::better);
                }
            }
            open = new ArrayList<>(best.values());
        }
        return open.stream().reduce(Model::better).get();
    }

    private static Path with(Path path, int p, int stray) {
        List<Integer> longer = new ArrayList<>(path.p);
        longer.add(p);
        int n = longer.size();
        int bend = n < 3 ? 0 : Math.abs(longer.get(n - 1) - 2 * longer.get(n - 2) + longer.get(n - 3));
        return new Path(path.bends + bend, path.strays + stray, longer);
    }

    private static Path better(Path a, Path b) {
        if (a.bends != b.bends) return a.bends < b.bends ? a : b;
        if (a.strays != b.strays) return a.strays < b.strays ? a : b;
        for (int f = 0; f < a.p.size(); f++) {
            int order = a.p.get(f).compareTo(b.p.get(f));
            if (order != 0) return order < 0 ? a : b;
        }
        return a;
    }

    int dust(int f) {
        if (noFrame(f)) return NUMBER;
        int count = 0;
        for (int y = 0; y < high; y++) {
            for (int x = 0; x < wide; x++) {
                if (isDust(frames.get(f)[y][x], f, y, x)) count++;
            }
        }
        return count;
    }

    private boolean isDust(int v, int f, int y, int x) {
        if (v < 0 || f == 0 || f == frames.size() - 1) return false;
        int a = frames.get(f - 1)[y][x];
        int b = frames.get(f + 1)[y][x];
        return a >= 0 && b >= 0 && Math.abs(a - b) <= rules[1] && Math.min(Math.abs(v - a), Math.abs(v - b)) > rules[2];
    }

    int layer(int kind, int f, int a, int b) {
        if (kind < 0 || kind > 3 || noFrame(f)) return NUMBER;
        if (kind == 1 && (noFrame(a) || a == f)) return NUMBER;
        if (kind == 3 && (a < -3 || a > 3 || b < -3 || b > 3)) return NUMBER;
        if (layers.size() == 12) return FULL;
        layers.add(new Layer(kind, f, kind % 2 == 1 ? a : 0, kind == 3 ? b : 0, true));
        return layers.size() - 1;
    }

    int on(int n, boolean is) {
        if (noLayer(n)) return NUMBER;
        Layer was = layers.get(n);
        layers.set(n, new Layer(was.kind, was.frame, was.a, was.b, is));
        return was.on == is ? 0 : 1;
    }

    int peel() {
        if (layers.isEmpty()) return NONE;
        layers.remove(layers.size() - 1);
        return layers.size();
    }

    int made(int f, int y, int x) {
        return noFrame(f) || noSquare(y, x) ? NOTHING : made(f, layers.size())[y][x];
    }

    private int[][] made(int f, int end) {
        int[][] squares = copy(frames.get(f));
        for (Layer layer : layers.subList(0, end)) {
            if (layer.on && layer.frame == f) squares = under(layer, squares);
        }
        return squares;
    }

    private int[][] under(Layer layer, int[][] was) {
        int[][] is = copy(was);
        List<Integer> own = rising(was);
        for (int y = 0; y < high; y++) {
            for (int x = 0; x < wide; x++) {
                is[y][x] = switch (layer.kind) {
                    case 0 -> isDust(was[y][x], layer.frame, y, x)
                            ? (frames.get(layer.frame - 1)[y][x] + frames.get(layer.frame + 1)[y][x]) / 2 : was[y][x];
                    case 1 -> matched(was[y][x], own, rising(frames.get(layer.a)));
                    case 2 -> was[y][x] >= 0 ? was[y][x] : filled(layer.frame, y, x);
                    default -> noSquare(y - layer.b, x - layer.a) ? -1 : was[y - layer.b][x - layer.a];
                };
            }
        }
        return is;
    }

    private static int matched(int v, List<Integer> own, List<Integer> other) {
        if (v < 0 || own.isEmpty() || other.isEmpty()) return v;
        int a = own.indexOf(v);
        int b = own.lastIndexOf(v) - a + 1;
        return other.get((2 * a + b - 1) / 2 * other.size() / own.size());
    }

    private int filled(int f, int y, int x) {
        if (f > 0 && frames.get(f - 1)[y][x] >= 0) return frames.get(f - 1)[y][x];
        return f + 1 < frames.size() ? frames.get(f + 1)[y][x] : -1;
    }

    private static List<Integer> rising(int[][] squares) {
        List<Integer> greys = new ArrayList<>();
        for (int[] line : squares) {
            for (int v : line) {
                if (v >= 0) greys.add(v);
            }
        }
        Collections.sort(greys);
        return greys;
    }

    private int unlike(int[][] one, int[][] other) {
        int count = 0;
        for (int y = 0; y < high; y++) {
            for (int x = 0; x < wide; x++) {
                if (one[y][x] != other[y][x]) count++;
            }
        }
        return count;
    }

    int changed(int n) {
        if (noLayer(n)) return NUMBER;
        int f = layers.get(n).frame;
        return unlike(made(f, n), made(f, n + 1));
    }

    int of(int n, int what) {
        if (noLayer(n) || what < 0 || what > 4) return NOTHING;
        Layer layer = layers.get(n);
        return new int[] {layer.kind, layer.frame, layer.a, layer.b, layer.on ? 1 : 0}[what];
    }

    int told(int f, int what) {
        if (noFrame(f) || what < 0 || what > 4) return NUMBER;
        int[][] squares = made(f, layers.size());
        List<Integer> greys = rising(squares);
        if ((what == 2 || what == 3) && greys.isEmpty()) return NONE;
        return switch (what) {
            case 0 -> high * wide - greys.size();
            case 1 -> greys.stream().mapToInt(Integer::intValue).sum();
            case 2 -> greys.get(0);
            case 3 -> greys.get(greys.size() - 1);
            default -> unlike(squares, frames.get(f));
        };
    }

    int many(int what) {
        return switch (what) {
            case 0 -> high;
            case 1 -> wide;
            case 2 -> frames.size();
            case 3 -> layers.size();
            case 4 -> (int) layers.stream().filter(Layer::on).count();
            case 5 -> frames.stream().mapToInt(f -> high * wide - rising(f).size()).sum();
            case 6, 7, 8 -> rules[what - 6];
            default -> NUMBER;
        };
    }

    int keep() {
        keptHigh = high;
        keptWide = wide;
        keptFrames = copy(frames);
        keptLayers = new ArrayList<>(layers);
        return 1;
    }

    int back() {
        if (keptFrames == null) return NONE;
        high = keptHigh;
        wide = keptWide;
        frames = copy(keptFrames);
        layers = new ArrayList<>(keptLayers);
        return 1;
    }

    private boolean noFrame(int f) {
        return f < 0 || f >= frames.size();
    }

    private boolean noSquare(int y, int x) {
        return y < 0 || y >= high || x < 0 || x >= wide;
    }

    private boolean noLayer(int n) {
        return n < 0 || n >= layers.size();
    }

    private static int[][] copy(int[][] squares) {
        int[][] copy = new int[squares.length][];
        for (int y = 0; y < squares.length; y++) copy[y] = squares[y].clone();
        return copy;
    }

    private static List<int[][]> copy(List<int[][]> list) {
        List<int[][]> copies = new ArrayList<>();
        for (int[][] squares : list) copies.add(copy(squares));
        return copies;
    }
}
