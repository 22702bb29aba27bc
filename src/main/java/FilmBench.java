/**
 * A bench for old film: frames of greys with lost squares, each frame's shift against the one
 * ahead found as the best of a window, a steady path with the least bends, dust told where both
 * neighbours agree and this frame doesn't, and layers that clean, match levels, fill and move,
 * on or off, over raw frames that are never touched.
 *
 * <p>Everything is made in the constructor and used again; no call makes an object.
 */
public final class FilmBench {
    /** A number is none, or none that may be. */
    public static final int NUMBER = -1;
    /** There are as many as may be. */
    public static final int FULL = -2;
    /** There is none. */
    public static final int NONE = -3;
    /** What is answered for a number that can't be told. */
    public static final int NOTHING = -1000;

    private static final int LOST = -1;
    private static final int MOST_GREY = 63;
    private static final int LEAST_SIDE = 2;
    private static final int MOST_SIDE = 6;
    private static final int MOST_SQUARES = MOST_SIDE * MOST_SIDE;
    private static final int MOST_FRAMES = 10;
    private static final int MOST_LAYERS = 12;
    private static final int MOST_SHIFT = 2;
    private static final int MOST_MOVE = 3;
    private static final int BITS_OF_SQUARE = 7;
    private static final int MASK_OF_SQUARE = 127;

    private static final int CLEAN = 0;
    private static final int MATCH = 1;
    private static final int FILL = 2;
    private static final int MOVE = 3;

    private static final int RULE_S = 0;
    private static final int RULE_D = 1;
    private static final int RULE_E = 2;
    private static final int RULES = 3;
    private static final int[] FIRST_RULES = {1, 2, 5};
    private static final int[] LEAST_RULES = {0, 0, 1};
    private static final int[] MOST_RULES = {3, 10, 63};

    private final Reel film;
    private final Layers layers;
    private final int[] rules;
    private final Shifts shifts;
    private final Steady steady;
    private final Sheet sheet;
    private final Reel keptFilm;
    private final Layers keptLayers;
    private boolean isKept;

    public FilmBench() {
        film = new Reel();
        layers = new Layers();
        rules = new int[RULES];
        System.arraycopy(FIRST_RULES, 0, rules, 0, RULES);
        shifts = new Shifts(film);
        steady = new Steady();
        sheet = new Sheet(film, layers, rules);
        keptFilm = new Reel();
        keptLayers = new Layers();
        isKept = false;
    }

    // ---- raw frames

    public int reel(int high, int wide) {
        if (!isWithin(high, LEAST_SIDE, MOST_SIDE) || !isWithin(wide, LEAST_SIDE, MOST_SIDE)) {
            return NUMBER;
        }
        film.start(high, wide);
        layers.count = 0;
        return film.squares;
    }

    public int frame() {
        return film.frames >= MOST_FRAMES ? FULL : film.addFrame();
    }

    public int again(int frame, int c) {
        if (!film.hasFrame(frame) || !isWithin(c, -MOST_GREY, MOST_GREY)) {
            return NUMBER;
        }
        if (film.frames >= MOST_FRAMES) {
            return FULL;
        }
        int number = film.addFrame();
        for (int place = 0; place < film.squares; place++) {
            int grey = film.greyAt(frame, place);
            if (grey != LOST) {
                film.setGrey(number, place, Math.max(0, Math.min(MOST_GREY, grey + c)));
            }
        }
        return number;
    }

    public int put(int frame, int y, int x, int grey) {
        int place = film.placeOf(y, x);
        if (!film.hasFrame(frame) || place < 0 || !isWithin(grey, LOST, MOST_GREY)) {
            return NOTHING;
        }
        int was = film.greyAt(frame, place);
        film.setGrey(frame, place, grey);
        return was;
    }

    public int row(int frame, int y, long greys) {
        if (!film.hasFrame(frame) || film.placeOf(y, 0) < 0) {
            return NUMBER;
        }
        int there = 0;
        for (int x = 0; x < film.wide; x++) {
            int bits = (int) (greys >>> (BITS_OF_SQUARE * x)) & MASK_OF_SQUARE;
            int grey = bits > MOST_GREY ? LOST : bits;
            film.setGrey(frame, film.placeOf(y, x), grey);
            if (grey != LOST) {
                there++;
            }
        }
        return there;
    }

    public int raw(int frame, int y, int x) {
        int place = film.placeOf(y, x);
        if (!film.hasFrame(frame) || place < 0) {
            return NOTHING;
        }
        return film.greyAt(frame, place);
    }

    public int rule(int what, int v) {
        if (!isWithin(what, 0, RULES - 1) || !isWithin(v, LEAST_RULES[what], MOST_RULES[what])) {
            return NUMBER;
        }
        int was = rules[what];
        rules[what] = v;
        return was;
    }

    // ---- shifts and paths

    public int miss(int frame, int dx, int dy, int what) {
        if (!film.hasFrame(frame) || frame == 0 || !isWithin(what, 0, 1)
                || !isWithin(dx, -MOST_SHIFT, MOST_SHIFT)
                || !isWithin(dy, -MOST_SHIFT, MOST_SHIFT)) {
            return NUMBER;
        }
        shifts.measure(frame, dx, dy);
        if (!shifts.isEnough()) {
            return NONE;
        }
        int divisor = commonDivisor(shifts.sum, shifts.pairs);
        if (divisor < 1) {
            return NONE;
        }
        return (what == 0 ? shifts.sum : shifts.pairs) / divisor;
    }

    public int shift(int frame, int what) {
        if (!film.hasFrame(frame) || frame == 0 || !isWithin(what, 0, 1)) {
            return NOTHING;
        }
        shifts.find(frame);
        return shifts.along(what);
    }

    public int drift(int frame, int axis) {
        if (!film.hasFrame(frame) || !isWithin(axis, 0, 1)) {
            return NOTHING;
        }
        int sum = 0;
        for (int f = 1; f <= frame; f++) {
            shifts.find(f);
            sum += shifts.along(axis);
        }
        return sum;
    }

    public int path(int frame, int axis) {
        if (!film.hasFrame(frame) || !isWithin(axis, 0, 1)) {
            return NOTHING;
        }
        findPath(axis);
        return steady.spotAt(frame);
    }

    public int bends(int axis, int what) {
        if (!isWithin(axis, 0, 1) || !isWithin(what, 0, 1)) {
            return NUMBER;
        }
        findPath(axis);
        return what == 0 ? steady.sumOfBends() : steady.sumOfStrays();
    }

    public int dust(int frame) {
        if (!film.hasFrame(frame)) {
            return NUMBER;
        }
        int count = 0;
        for (int place = 0; place < film.squares; place++) {
            if (sheet.isDust(film.greyAt(frame, place), frame, place)) {
                count++;
            }
        }
        return count;
    }

    // ---- layers

    public int layer(int kind, int frame, int a, int b) {
        if (!isWithin(kind, CLEAN, MOVE) || !film.hasFrame(frame)) {
            return NUMBER;
        }
        if (kind == MATCH && (!film.hasFrame(a) || a == frame)) {
            return NUMBER;
        }
        if (kind == MOVE
                && (!isWithin(a, -MOST_MOVE, MOST_MOVE) || !isWithin(b, -MOST_MOVE, MOST_MOVE))) {
            return NUMBER;
        }
        if (layers.count >= MOST_LAYERS) {
            return FULL;
        }
        return layers.add(kind, frame, kind == MATCH || kind == MOVE ? a : 0, kind == MOVE ? b : 0);
    }

    public int on(int layer, boolean is) {
        if (!layers.has(layer)) {
            return NUMBER;
        }
        boolean isNew = layers.ons[layer] != is;
        layers.ons[layer] = is;
        return isNew ? 1 : 0;
    }

    public int peel() {
        if (layers.count <= 0) {
            return NONE;
        }
        layers.count--;
        return layers.count;
    }

    public int made(int frame, int y, int x) {
        int place = film.placeOf(y, x);
        if (!film.hasFrame(frame) || place < 0) {
            return NOTHING;
        }
        sheet.make(frame, layers.count);
        return sheet.greyAt(place);
    }

    public int changed(int layer) {
        if (!layers.has(layer)) {
            return NUMBER;
        }
        if (!layers.ons[layer]) {
            return 0;
        }
        sheet.make(layers.owners[layer], layer + 1);
        return sheet.countChanged();
    }

    public int of(int layer, int what) {
        if (!layers.has(layer)) {
            return NOTHING;
        }
        switch (what) {
            case 0:
                return layers.kinds[layer];
            case 1:
                return layers.owners[layer];
            case 2:
                return layers.as[layer];
            case 3:
                return layers.bs[layer];
            case 4:
                return layers.ons[layer] ? 1 : 0;
            default:
                return NOTHING;
        }
    }

    public int told(int frame, int what) {
        if (!film.hasFrame(frame) || !isWithin(what, 0, 4)) {
            return NUMBER;
        }
        sheet.make(frame, layers.count);
        switch (what) {
            case 0:
                return sheet.countLost();
            case 1:
                return sheet.sumOfGreys();
            case 2:
                return sheet.countLost() == film.squares ? NONE : sheet.leastGrey();
            case 3:
                return sheet.countLost() == film.squares ? NONE : sheet.greatestGrey();
            default:
                return sheet.countUnlikeRaw(frame);
        }
    }

    public int many(int what) {
        switch (what) {
            case 0:
                return film.high;
            case 1:
                return film.wide;
            case 2:
                return film.frames;
            case 3:
                return layers.count;
            case 4:
                return layers.countOn();
            case 5:
                return film.countLost();
            case 6:
                return rules[RULE_S];
            case 7:
                return rules[RULE_D];
            case 8:
                return rules[RULE_E];
            default:
                return NUMBER;
        }
    }

    // ---- kept

    public int keep() {
        keptFilm.copyFrom(film);
        keptLayers.copyFrom(layers);
        isKept = true;
        return 1;
    }

    public int back() {
        if (!isKept) {
            return NONE;
        }
        film.copyFrom(keptFilm);
        layers.copyFrom(keptLayers);
        return 1;
    }

    private void findPath(int axis) {
        int sum = 0;
        for (int f = 0; f < film.frames; f++) {
            if (f > 0) {
                shifts.find(f);
                sum += shifts.along(axis);
            }
            steady.setDrift(f, sum);
        }
        steady.solve(film.frames, rules[RULE_S]);
    }

    private static boolean isWithin(int v, int least, int most) {
        return v >= least && v <= most;
    }

    /** The greatest common divisor of two numbers from 0; with 0 and n it is n, so 0 / n clears to 0 / 1. */
    private static int commonDivisor(int one, int other) {
        int a = one;
        int b = other;
        // A Euclid of numbers below 63 * 36 ends within some twenty steps.
        for (int step = 0; step < 100 && b != 0; step++) {
            int rest = a % b;
            a = b;
            b = rest;
        }
        return a;
    }

    /** The raw frames. A square's place is its number in its frame, row by row. */
    private static final class Reel {
        int high;
        int wide;
        int squares;
        int frames;
        private final int[] greys;

        Reel() {
            greys = new int[MOST_FRAMES * MOST_SQUARES];
            high = LEAST_SIDE;
            wide = LEAST_SIDE;
            squares = LEAST_SIDE * LEAST_SIDE;
            frames = 0;
        }

        void start(int rows, int columns) {
            high = rows;
            wide = columns;
            squares = rows * columns;
            frames = 0;
        }

        boolean hasFrame(int f) {
            return f >= 0 && f < frames;
        }

        boolean hasPlace(int place) {
            return place >= 0 && place < squares;
        }

        /** Below 0 for a square that isn't there. */
        int placeOf(int y, int x) {
            if (y < 0 || y >= high || x < 0 || x >= wide) {
                return NOTHING;
            }
            return y * wide + x;
        }

        /** LOST too for a frame or place that isn't there: every rule treats both alike. */
        int greyAt(int f, int place) {
            if (!hasFrame(f) || !hasPlace(place)) {
                return LOST;
            }
            return greys[f * MOST_SQUARES + place];
        }

        void setGrey(int f, int place, int grey) {
            if (hasFrame(f) && hasPlace(place)) {
                greys[f * MOST_SQUARES + place] = grey;
            }
        }

        /** The caller has seen that there is room. */
        int addFrame() {
            int number = frames;
            frames++;
            for (int place = 0; place < squares; place++) {
                setGrey(number, place, LOST);
            }
            return number;
        }

        int countLost() {
            int count = 0;
            for (int f = 0; f < frames; f++) {
                for (int place = 0; place < squares; place++) {
                    if (greyAt(f, place) == LOST) {
                        count++;
                    }
                }
            }
            return count;
        }

        void copyFrom(Reel other) {
            high = other.high;
            wide = other.wide;
            squares = other.squares;
            frames = other.frames;
            System.arraycopy(other.greys, 0, greys, 0, MOST_FRAMES * MOST_SQUARES);
        }
    }

    /** The layers by their numbers, a row for each thing that is told of them. */
    private static final class Layers {
        int count;
        final int[] kinds;
        final int[] owners;
        final int[] as;
        final int[] bs;
        final boolean[] ons;

        Layers() {
            count = 0;
            kinds = new int[MOST_LAYERS];
            owners = new int[MOST_LAYERS];
            as = new int[MOST_LAYERS];
            bs = new int[MOST_LAYERS];
            ons = new boolean[MOST_LAYERS];
        }

        boolean has(int layer) {
            return layer >= 0 && layer < count;
        }

        /** The caller has seen that there is room. */
        int add(int kind, int owner, int a, int b) {
            int number = count;
            count++;
            kinds[number] = kind;
            owners[number] = owner;
            as[number] = a;
            bs[number] = b;
            ons[number] = true;
            return number;
        }

        int countOn() {
            int lit = 0;
            for (int layer = 0; layer < count; layer++) {
                if (ons[layer]) {
                    lit++;
                }
            }
            return lit;
        }

        void copyFrom(Layers other) {
            count = other.count;
            for (int layer = 0; layer < MOST_LAYERS; layer++) {
                kinds[layer] = other.kinds[layer];
                owners[layer] = other.owners[layer];
                as[layer] = other.as[layer];
                bs[layer] = other.bs[layer];
                ons[layer] = other.ons[layer];
            }
        }
    }

    /** Finds how a frame lies against the one ahead of it. */
    private static final class Shifts {
        private final Reel film;
        int sum;
        int pairs;
        private int bestX;
        private int bestY;
        private int bestSum;
        private int bestPairs;

        Shifts(Reel film) {
            this.film = film;
        }

        /** MISS of a shift, as sum / pairs, not cleared. */
        void measure(int f, int dx, int dy) {
            sum = 0;
            pairs = 0;
            int lastY = Math.min(film.high, film.high - dy);
            int lastX = Math.min(film.wide, film.wide - dx);
            for (int y = Math.max(0, -dy); y < lastY; y++) {
                for (int x = Math.max(0, -dx); x < lastX; x++) {
                    int ahead = film.greyAt(f - 1, film.placeOf(y, x));
                    int here = film.greyAt(f, film.placeOf(y + dy, x + dx));
                    if (ahead != LOST && here != LOST) {
                        sum += Math.abs(here - ahead);
                        pairs++;
                    }
                }
            }
        }

        boolean isEnough() {
            return 4 * pairs >= film.squares;
        }

        void find(int f) {
            bestX = 0;
            bestY = 0;
            bestPairs = 0;
            // By rising dy, then dx: of shifts that are equally good the first one stays.
            for (int dy = -MOST_SHIFT; dy <= MOST_SHIFT; dy++) {
                for (int dx = -MOST_SHIFT; dx <= MOST_SHIFT; dx++) {
                    measure(f, dx, dy);
                    if (isEnough() && isBetter(dx, dy)) {
                        bestX = dx;
                        bestY = dy;
                        bestSum = sum;
                        bestPairs = pairs;
                    }
                }
            }
        }

        private boolean isBetter(int dx, int dy) {
            if (bestPairs == 0) {
                return true;
            }
            int mine = sum * bestPairs;
            int best = bestSum * pairs;
            if (mine != best) {
                return mine < best;
            }
            return Math.abs(dx) + Math.abs(dy) < Math.abs(bestX) + Math.abs(bestY);
        }

        int along(int axis) {
            return axis == 0 ? bestX : bestY;
        }
    }

    /**
     * Finds THE PATH along one axis. A frame's choice is how far it strays, counted from -S as 0.
     * From the last frames to the first, the least cost of all that comes behind two neighbours'
     * choices is found; then the least choices that reach it are taken from the first frame on.
     */
    private static final class Steady {
        private static final int MOST_CHOICES = 7;
        private static final int CHOICE_PAIRS = MOST_CHOICES * MOST_CHOICES;
        // More than all strays together can be, so that one bend outweighs them.
        private static final int BEND_COST = 100;

        private final int[] drifts;
        private final int[] spots;
        private final int[] costsBehind;
        private int frames;
        private int stray;
        private int choices;

        Steady() {
            drifts = new int[MOST_FRAMES];
            spots = new int[MOST_FRAMES];
            costsBehind = new int[MOST_FRAMES * CHOICE_PAIRS];
        }

        void setDrift(int f, int drift) {
            if (f >= 0 && f < MOST_FRAMES) {
                drifts[f] = drift;
            }
        }

        int spotAt(int f) {
            return f >= 0 && f < frames ? spots[f] : NOTHING;
        }

        void solve(int frameCount, int mostStray) {
            frames = frameCount;
            stray = mostStray;
            choices = 2 * mostStray + 1;
            if (frames < 3) {
                System.arraycopy(drifts, 0, spots, 0, frames);
                return;
            }
            findCosts();
            takeChoices();
        }

        private void findCosts() {
            for (int f = frames - 2; f >= 0; f--) {
                for (int one = 0; one < choices; one++) {
                    for (int two = 0; two < choices; two++) {
                        costsBehind[slotOf(f, one, two)] = leastCostBehind(f, one, two);
                    }
                }
            }
        }

        /** The least cost of the frames behind f + 1, if f and f + 1 have these choices. */
        private int leastCostBehind(int f, int one, int two) {
            if (f + 2 >= frames) {
                return 0;
            }
            int least = costThrough(f, one, two, 0);
            for (int three = 1; three < choices; three++) {
                least = Math.min(least, costThrough(f, one, two, three));
            }
            return least;
        }

        private int costThrough(int f, int one, int two, int three) {
            int bend = Math.abs(spotOf(f + 2, three) - 2 * spotOf(f + 1, two) + spotOf(f, one));
            return BEND_COST * bend + Math.abs(three - stray)
                    + costsBehind[slotOf(f + 1, two, three)];
        }

        private void takeChoices() {
            int one = 0;
            int two = 0;
            int least = costOfStart(0, 0);
            for (int i = 0; i < choices; i++) {
                for (int j = 0; j < choices; j++) {
                    int cost = costOfStart(i, j);
                    if (cost < least) {
                        least = cost;
                        one = i;
                        two = j;
                    }
                }
            }
            spots[0] = spotOf(0, one);
            spots[1] = spotOf(1, two);
            for (int f = 0; f + 2 < frames; f++) {
                int three = leastThird(f, one, two);
                spots[f + 2] = spotOf(f + 2, three);
                one = two;
                two = three;
            }
        }

        private int costOfStart(int one, int two) {
            return Math.abs(one - stray) + Math.abs(two - stray) + costsBehind[slotOf(0, one, two)];
        }

        private int leastThird(int f, int one, int two) {
            int best = 0;
            for (int three = 1; three < choices; three++) {
                if (costThrough(f, one, two, three) < costThrough(f, one, two, best)) {
                    best = three;
                }
            }
            return best;
        }

        private int spotOf(int f, int choice) {
            return drifts[f] + choice - stray;
        }

        private static int slotOf(int f, int one, int two) {
            return f * CHOICE_PAIRS + one * MOST_CHOICES + two;
        }

        int sumOfBends() {
            int sum = 0;
            for (int f = 1; f + 1 < frames; f++) {
                sum += Math.abs(spots[f + 1] - 2 * spots[f] + spots[f - 1]);
            }
            return sum;
        }

        int sumOfStrays() {
            int sum = 0;
            for (int f = 0; f < frames; f++) {
                sum += Math.abs(spots[f] - drifts[f]);
            }
            return sum;
        }
    }

    /** One frame on which its layers work; the raw frames are only read. */
    private static final class Sheet {
        private final Reel film;
        private final Layers layers;
        private final int[] rules;
        private final int[] now;
        private final int[] before;
        private final int[] rising;

        Sheet(Reel film, Layers layers, int[] rules) {
            this.film = film;
            this.layers = layers;
            this.rules = rules;
            now = new int[MOST_SQUARES];
            before = new int[MOST_SQUARES];
            rising = new int[MOST_SQUARES];
        }

        /** The frame with those of its layers that are ON and numbered below end. */
        void make(int f, int end) {
            for (int place = 0; place < film.squares; place++) {
                now[place] = film.greyAt(f, place);
            }
            for (int layer = 0; layer < end && layer < layers.count; layer++) {
                if (layers.owners[layer] == f && layers.ons[layer]) {
                    apply(layer);
                }
            }
        }

        private void apply(int layer) {
            System.arraycopy(now, 0, before, 0, MOST_SQUARES);
            int f = layers.owners[layer];
            switch (layers.kinds[layer]) {
                case CLEAN:
                    cleanDust(f);
                    break;
                case MATCH:
                    matchLevels(layers.as[layer]);
                    break;
                case FILL:
                    fillLost(f);
                    break;
                default:
                    moveAll(layers.as[layer], layers.bs[layer]);
                    break;
            }
        }

        private void cleanDust(int f) {
            for (int place = 0; place < film.squares; place++) {
                if (isDust(before[place], f, place)) {
                    now[place] = (film.greyAt(f - 1, place) + film.greyAt(f + 1, place)) / 2;
                }
            }
        }

        boolean isDust(int grey, int f, int place) {
            int ahead = film.greyAt(f - 1, place);
            int behind = film.greyAt(f + 1, place);
            if (grey == LOST || ahead == LOST || behind == LOST) {
                return false;
            }
            return Math.abs(ahead - behind) <= rules[RULE_D]
                    && Math.abs(grey - ahead) > rules[RULE_E]
                    && Math.abs(grey - behind) > rules[RULE_E];
        }

        private void matchLevels(int model) {
            int m = sortGreysOf(model);
            int n = film.squares - countLost();
            if (n <= 0 || m <= 0) {
                return;
            }
            for (int place = 0; place < film.squares; place++) {
                if (before[place] != LOST) {
                    int rank = middleRankOf(before[place]) * m / n;
                    if (rank >= 0 && rank < m) {
                        now[place] = rising[rank];
                    }
                }
            }
        }

        /** Puts a raw frame's greys in rising order: how many there are. */
        private int sortGreysOf(int f) {
            int count = 0;
            for (int place = 0; place < film.squares; place++) {
                int grey = film.greyAt(f, place);
                if (grey != LOST) {
                    int slot = count;
                    while (slot > 0 && rising[slot - 1] > grey) {
                        rising[slot] = rising[slot - 1];
                        slot--;
                    }
                    rising[slot] = grey;
                    count++;
                }
            }
            return count;
        }

        /** The middle one of the places that squares of this grey take in the order of all. */
        private int middleRankOf(int grey) {
            int darker = 0;
            int same = 0;
            for (int place = 0; place < film.squares; place++) {
                if (before[place] == grey) {
                    same++;
                } else if (before[place] != LOST && before[place] < grey) {
                    darker++;
                }
            }
            return (2 * darker + same - 1) / 2;
        }

        private void fillLost(int f) {
            for (int place = 0; place < film.squares; place++) {
                if (before[place] == LOST) {
                    int ahead = film.greyAt(f - 1, place);
                    now[place] = ahead != LOST ? ahead : film.greyAt(f + 1, place);
                }
            }
        }

        private void moveAll(int a, int b) {
            for (int y = 0; y < film.high; y++) {
                for (int x = 0; x < film.wide; x++) {
                    int from = film.placeOf(y - b, x - a);
                    now[film.placeOf(y, x)] = film.hasPlace(from) ? before[from] : LOST;
                }
            }
        }

        int greyAt(int place) {
            return film.hasPlace(place) ? now[place] : LOST;
        }

        /** How many squares the layer changed that was applied last. */
        int countChanged() {
            int count = 0;
            for (int place = 0; place < film.squares; place++) {
                if (now[place] != before[place]) {
                    count++;
                }
            }
            return count;
        }

        int countUnlikeRaw(int f) {
            int count = 0;
            for (int place = 0; place < film.squares; place++) {
                if (now[place] != film.greyAt(f, place)) {
                    count++;
                }
            }
            return count;
        }

        int countLost() {
            int count = 0;
            for (int place = 0; place < film.squares; place++) {
                if (now[place] == LOST) {
                    count++;
                }
            }
            return count;
        }

        int sumOfGreys() {
            int sum = 0;
            for (int place = 0; place < film.squares; place++) {
                if (now[place] != LOST) {
                    sum += now[place];
                }
            }
            return sum;
        }

        int leastGrey() {
            int least = MOST_GREY;
            for (int place = 0; place < film.squares; place++) {
                if (now[place] != LOST) {
                    least = Math.min(least, now[place]);
                }
            }
            return least;
        }

        int greatestGrey() {
            int greatest = 0;
            for (int place = 0; place < film.squares; place++) {
                greatest = Math.max(greatest, now[place]);
            }
            return greatest;
        }
    }
}
