/**
 * A bench on which a flat part is gripped: fingers, spots, cups, probes, grips, a bin, sheets.
 *
 * All rows are made with the object and used again; no call makes another.
 */
public final class GripBench {
    public static final int NONE = -1, BAD = -2, NOT = -3, FULL = -4;

    private static final int NULL = 1, INDEX = 2, CAST = 3, STORE = 4, SIZE = 5;
    private static final int LEAST_INT = -2147483648;
    private static final long LEAST_LONG = -9223372036854775808L;
    private static final int EIGHTHS = 8;
    private static final int MOST_CORNERS = 10;
    private static final int FARTHEST_CORNER = 30;
    private static final int MOST_FINGERS = 8;
    private static final int MOST_FRICTION = 16;
    private static final int MOST_FINGERS_TO_SLIP = 4;
    private static final int MOST_SPOTS = 7;
    private static final int MOST_PRICE = 1000;
    private static final int FARTHEST_PLACE = 1000;
    private static final int MOST_WEIGHT = 20;
    private static final int MOST_SEAL = 100000;
    private static final int MOST_PROBES = 20;
    private static final int FARTHEST_PROBE = 40;
    private static final int FARTHEST_SHIFT = 4;
    private static final int MOST_GRIPS = 10;
    private static final int MOST_COST = 1000;
    private static final int MOST_PARTS = 12;
    private static final int SHEET_COUNT = 4;
    private static final int FELT_SHEET = 0;

    private final Polygon polygon;
    private final Hand hand;
    private final Hand trial;
    private final Triples triples;
    private final Spots spots;
    private final Probes probes;
    private final Grips grips;
    private final Bin bin;
    private final Sheets sheets;
    private int friction;

    public GripBench() {
        polygon = new Polygon();
        hand = new Hand();
        trial = new Hand();
        triples = new Triples();
        spots = new Spots();
        probes = new Probes();
        grips = new Grips();
        bin = new Bin();
        sheets = new Sheets();
        friction = 0;
    }

    // ---- the part

    public int shape(int s, int n) {
        if (!isSheet(s) || n < 3 || n > MOST_CORNERS) {
            return BAD;
        }
        if (sheets.isLost(s)) {
            return sheets.find(NULL);
        }
        if (sheets.length(s) < 2 * n) {
            return sheets.find(INDEX);
        }
        if (!isShape(s, n)) {
            return NOT;
        }
        for (int i = 0; i < n; i++) {
            polygon.setCorner(i, sheets.value(s, 2 * i), sheets.value(s, 2 * i + 1));
        }
        polygon.close(n);
        hand.clear();
        spots.clear();
        return polygon.area();
    }

    private boolean isShape(int s, int n) {
        for (int i = 0; i < 2 * n; i++) {
            if (!isWithin(sheets.value(s, i), FARTHEST_CORNER)) {
                return false;
            }
        }
        int area = 0;
        for (int i = 0; i < n; i++) {
            int next = i + 1 < n ? i + 1 : 0;
            area += sheets.value(s, 2 * i) * sheets.value(s, 2 * next + 1)
                    - sheets.value(s, 2 * i + 1) * sheets.value(s, 2 * next);
        }
        return area > 0;
    }

    public int corner(int i, int what) {
        if (i < 0 || i >= polygon.corners() || what < 0 || what > 1) {
            return -1000;
        }
        return what == 0 ? polygon.x(i) : polygon.y(i);
    }

    public int middle(int what) {
        switch (what) {
            case 0: return polygon.area();
            case 1: return polygon.momentX();
            case 2: return polygon.momentY();
            default: return -1000000;
        }
    }

    public int isIn(int x, int y) {
        return isPlace(x, y) ? polygon.side(x, y) : BAD;
    }

    // ---- fingers

    public int finger(int edge, int k) {
        if (!isStand(edge, k)) {
            return BAD;
        }
        if (hand.size() >= MOST_FINGERS) {
            return FULL;
        }
        hand.add(edge, k);
        return hand.size() - 1;
    }

    public int move(int finger, int edge, int k) {
        if (!isFinger(finger) || !isStand(edge, k)) {
            return BAD;
        }
        hand.stand(finger, edge, k);
        return 1;
    }

    public int release() {
        int had = hand.size();
        hand.clear();
        return had;
    }

    public int friction(int f) {
        if (f < 0 || f > MOST_FRICTION) {
            return BAD;
        }
        int had = friction;
        friction = f;
        return had;
    }

    public long push(int t, int part) {
        triples.press(hand, polygon, friction);
        if (t < 0 || t >= triples.size() || !isTriplePart(part)) {
            return refusal(BAD);
        }
        return triples.part(t, part);
    }

    public int holds() {
        return isHeldBy(hand) ? 1 : 0;
    }

    public long witness(int part) {
        if (!isTriplePart(part)) {
            return refusal(BAD);
        }
        triples.press(hand, polygon, friction);
        return triples.spread() == Triples.HALF ? triples.normal(part) : refusal(NOT);
    }

    public int free(int finger) {
        if (!isFinger(finger)) {
            return BAD;
        }
        trial.become(hand);
        int bits = 0;
        for (int k = 0; k <= EIGHTHS; k++) {
            trial.stand(finger, hand.edge(finger), k);
            if (isHeldBy(trial)) {
                bits |= 1 << k;
            }
        }
        return bits;
    }

    public int slip() {
        if (hand.size() > MOST_FINGERS_TO_SLIP) {
            return NOT;
        }
        if (!isHeldBy(hand)) {
            return NONE;
        }
        for (int d = EIGHTHS; d > 0; d--) {
            if (isHeldWithin(d)) {
                return d;
            }
        }
        return 0;
    }

    /** Asks of d less, d more and neither alone, not of what is between: so the document tells it. */
    private boolean isHeldWithin(int d) {
        int ways = 1;
        for (int i = 0; i < hand.size() && i < MOST_FINGERS_TO_SLIP; i++) {
            ways *= 3;
        }
        for (int way = 0; way < ways; way++) {
            if (slide(way, d) && !isHeldBy(trial)) {
                return false;
            }
        }
        return true;
    }

    /** A way is a digit to the base 3 a finger; false, if it is cut to one that is asked anyhow. */
    private boolean slide(int way, int d) {
        trial.become(hand);
        int rest = way;
        for (int i = 0; i < hand.size(); i++) {
            int from = hand.eighth(i);
            int to = Math.min(EIGHTHS, Math.max(0, from + (rest % 3 - 1) * d));
            if (rest % 3 != 1 && to == from) {
                return false;
            }
            trial.stand(i, hand.edge(i), to);
            rest /= 3;
        }
        return true;
    }

    private boolean isHeldBy(Hand fingers) {
        triples.press(fingers, polygon, friction);
        return triples.spread() == Triples.WHOLE;
    }

    // ---- spots

    public int spot(int edge, int k, int price) {
        if (!isStand(edge, k) || price < 0 || price > MOST_PRICE) {
            return BAD;
        }
        if (spots.size() >= MOST_SPOTS) {
            return FULL;
        }
        spots.add(edge, k, price);
        return spots.size();
    }

    public int cheapest() {
        int best = NONE;
        for (int set = 1; set < 1 << spots.size(); set++) {
            if (best == NONE || spots.isBetter(set, best)) {
                spots.layOut(set, trial);
                best = isHeldBy(trial) ? set : best;
            }
        }
        return best;
    }

    public int take() {
        int best = cheapest();
        if (best == NONE) {
            return NOT;
        }
        spots.layOut(best, hand);
        return spots.price(best);
    }

    // ---- cups, poses

    public int lifts(int x, int y, int w, int s) {
        if (!isPlace(x, y) || !isWeight(w) || s < 0 || s > MOST_SEAL) {
            return BAD;
        }
        return polygon.side(x, y) != Polygon.OUT && polygon.isSealed(polygon.pull(x, y, w), s) ? 1 : 0;
    }

    public int seal(int x, int y, int w) {
        if (!isPlace(x, y) || !isWeight(w)) {
            return BAD;
        }
        if (polygon.side(x, y) == Polygon.OUT) {
            return NOT;
        }
        return polygon.leastSeal(polygon.pull(x, y, w));
    }

    public int probe(int x, int y) {
        if (!isWithin(x, FARTHEST_PROBE) || !isWithin(y, FARTHEST_PROBE)) {
            return BAD;
        }
        if (probes.size() >= MOST_PROBES) {
            return FULL;
        }
        probes.add(x, y);
        return probes.size();
    }

    public int poses() {
        int many = 0;
        for (int dx = -FARTHEST_SHIFT; dx <= FARTHEST_SHIFT; dx++) {
            for (int dy = -FARTHEST_SHIFT; dy <= FARTHEST_SHIFT; dy++) {
                if (fits(dx, dy)) {
                    many++;
                }
            }
        }
        return many;
    }

    public int pose(int i) {
        if (i < 0) {
            return BAD;
        }
        int ahead = 0;
        for (int dx = -FARTHEST_SHIFT; dx <= FARTHEST_SHIFT; dx++) {
            for (int dy = -FARTHEST_SHIFT; dy <= FARTHEST_SHIFT; dy++) {
                if (fits(dx, dy)) {
                    if (ahead == i) {
                        return 10 * (dx + FARTHEST_SHIFT) + dy + FARTHEST_SHIFT;
                    }
                    ahead++;
                }
            }
        }
        return BAD;
    }

    private boolean fits(int dx, int dy) {
        for (int i = 0; i < probes.size(); i++) {
            boolean feltPart = sheets.hasValue(FELT_SHEET, i, 1);
            boolean feltNothing = sheets.hasValue(FELT_SHEET, i, 0);
            if (feltPart || feltNothing) {
                int side = polygon.side(EIGHTHS * (probes.x(i) - dx), EIGHTHS * (probes.y(i) - dy));
                if (feltPart != (side != Polygon.OUT)) {
                    return false;
                }
            }
        }
        return true;
    }

    // ---- grips, the bin

    public int grip() {
        if (grips.size() >= MOST_GRIPS) {
            return FULL;
        }
        grips.add();
        return grips.size() - 1;
    }

    public int link(int a, int b, int cost) {
        if (!isGrip(a) || !isGrip(b) || a == b || cost < 1 || cost > MOST_COST) {
            return BAD;
        }
        grips.join(a, b, cost);
        return 1;
    }

    public int way(int a, int b) {
        if (!isGrip(a) || !isGrip(b)) {
            return BAD;
        }
        return grips.leastCost(a, b);
    }

    public int drop() {
        if (bin.dropped() >= MOST_PARTS) {
            return FULL;
        }
        bin.add();
        return bin.dropped() - 1;
    }

    public int on(int a, int b) {
        if (!isDropped(a) || !isDropped(b) || a == b) {
            return BAD;
        }
        bin.lay(a, b);
        return 1;
    }

    public int pick(int a) {
        if (!isDropped(a)) {
            return BAD;
        }
        if (!bin.isInside(a) || bin.isCovered(a)) {
            return NOT;
        }
        bin.remove(a);
        return 1;
    }

    public int reach(int a) {
        if (!isDropped(a)) {
            return BAD;
        }
        if (!bin.isInside(a)) {
            return NOT;
        }
        return (bin.stuckBits() >> a & 1) != 0 ? NONE : Integer.bitCount(bin.withAllAbove(a));
    }

    public int stuck() {
        return bin.stuckBits();
    }

    // ---- sheets

    public int sheet(int s, int form, int n) {
        if (!isSheet(s) || !isForm(form) || n > Sheets.MOST_ITEMS) {
            return BAD;
        }
        if (n < 0) {
            return sheets.find(SIZE);
        }
        sheets.renew(s, form, n);
        return n;
    }

    public int lose(int s) {
        if (!isSheet(s)) {
            return BAD;
        }
        if (sheets.isLost(s)) {
            return sheets.find(NULL);
        }
        int had = sheets.length(s);
        sheets.forget(s);
        return had;
    }

    public int put(int s, int form, int i, int v) {
        if (!isSheet(s) || !isForm(form)) {
            return BAD;
        }
        int fault = sheets.faultAt(s, form, i);
        if (fault != 0) {
            return sheets.find(fault);
        }
        sheets.write(s, i, v);
        return 1;
    }

    public int get(int s, int form, int i) {
        if (!isSheet(s) || !isForm(form)) {
            return LEAST_INT;
        }
        int fault = sheets.faultAt(s, form, i);
        if (fault != 0) {
            sheets.find(fault);
            return LEAST_INT;
        }
        return sheets.value(s, i);
    }

    public int copy(int s, int i, int t, int j, int n) {
        if (!isSheet(s) || !isSheet(t)) {
            return BAD;
        }
        if (sheets.isLost(s) || sheets.isLost(t)) {
            return sheets.find(NULL);
        }
        if (sheets.form(s) != sheets.form(t)) {
            return sheets.find(STORE);
        }
        if (!sheets.hasRun(s, i, n) || !sheets.hasRun(t, j, n)) {
            return sheets.find(INDEX);
        }
        for (int step = 0; step < n; step++) {
            // Within one sheet a run that moves up goes last item first, or it would read what it wrote.
            int item = i < j ? n - 1 - step : step;
            sheets.write(t, j + item, sheets.value(s, i + item));
        }
        return 1;
    }

    public int count(int what) {
        switch (what) {
            case 0: return polygon.corners();
            case 1: return hand.size();
            case 2: return friction;
            case 3: return spots.size();
            case 4: return probes.size();
            case 5: return grips.size();
            case 6: return sheets.latestFinding();
            case 7: return bin.size();
            case 8: return bin.dropped();
            default: return BAD;
        }
    }

    public long digest() {
        long h = 17;
        for (int what = 0; what <= 8; what++) {
            if (what != 6) {
                h = 31 * h + count(what);
            }
        }
        for (int i = 0; i < polygon.corners(); i++) {
            h = 31 * h + polygon.x(i);
            h = 31 * h + polygon.y(i);
        }
        triples.press(hand, polygon, friction);
        for (int t = 0; t < triples.size(); t++) {
            for (int which = 0; which < 3; which++) {
                h = 31 * h + triples.part(t, which);
            }
        }
        h = 31 * h + holds();
        h = 31 * h + poses();
        return 31 * h + stuck();
    }

    // ---- what numbers may be

    private static long refusal(int code) {
        return LEAST_LONG - code;
    }

    private static boolean isWithin(int v, int most) {
        return v >= -most && v <= most;
    }

    private static boolean isPlace(int x, int y) {
        return isWithin(x, FARTHEST_PLACE) && isWithin(y, FARTHEST_PLACE);
    }

    private static boolean isWeight(int w) {
        return w >= 1 && w <= MOST_WEIGHT;
    }

    private static boolean isTriplePart(int which) {
        return which >= 0 && which <= 2;
    }

    private static boolean isSheet(int s) {
        return s >= 0 && s < SHEET_COUNT;
    }

    private static boolean isForm(int form) {
        return form >= Sheets.BYTES && form <= Sheets.INTS;
    }

    private boolean isStand(int edge, int k) {
        return edge >= 0 && edge < polygon.corners() && k >= 0 && k <= EIGHTHS;
    }

    private boolean isFinger(int finger) {
        return finger >= 0 && finger < hand.size();
    }

    private boolean isGrip(int a) {
        return a >= 0 && a < grips.size();
    }

    private boolean isDropped(int a) {
        return a >= 0 && a < bin.dropped();
    }

    // ---- rows: every index is looked at here before it is used

    private static int item(int[] row, int i) {
        return row != null && i >= 0 && i < row.length ? row[i] : 0;
    }

    private static void setItem(int[] row, int i, int v) {
        if (row != null && i >= 0 && i < row.length) {
            row[i] = v;
        }
    }

    /** The polygon, its area and its middle. */
    private static final class Polygon {
        static final int OUT = 0, IN = 1, RIM = 2;
        private static final long SURELY_SEALED = 2000000000L;
        private static final int SURELY_ENOUGH = 1 << 30;

        private final int[] xs = new int[MOST_CORNERS];
        private final int[] ys = new int[MOST_CORNERS];
        private int corners;
        private int area;
        private int momentX;
        private int momentY;

        Polygon() {
            setCorner(0, 0, 0);
            setCorner(1, 10, 0);
            setCorner(2, 0, 10);
            close(3);
        }

        void setCorner(int i, int x, int y) {
            setItem(xs, i, x);
            setItem(ys, i, y);
        }

        /** The sums are kept, as they are asked far more often than the part is told. */
        void close(int n) {
            corners = n;
            area = 0;
            momentX = 0;
            momentY = 0;
            for (int i = 0; i < n; i++) {
                int j = next(i);
                int turn = x(i) * y(j) - y(i) * x(j);
                area += turn;
                momentX += (x(i) + x(j)) * turn;
                momentY += (y(i) + y(j)) * turn;
            }
        }

        int corners() {
            return corners;
        }

        int area() {
            return area;
        }

        int momentX() {
            return momentX;
        }

        int momentY() {
            return momentY;
        }

        int x(int i) {
            return item(xs, i);
        }

        int y(int i) {
            return item(ys, i);
        }

        int next(int i) {
            return i + 1 < corners ? i + 1 : 0;
        }

        int dx(int edge) {
            return item(xs, next(edge)) - item(xs, edge);
        }

        int dy(int edge) {
            return item(ys, next(edge)) - item(ys, edge);
        }

        int side(int px, int py) {
            boolean odd = false;
            for (int i = 0; i < corners; i++) {
                int j = next(i);
                int fromX = EIGHTHS * x(i) - px;
                int fromY = EIGHTHS * y(i) - py;
                int toX = EIGHTHS * x(j) - px;
                int toY = EIGHTHS * y(j) - py;
                // Above 0, if the place is left of the edge, seen from its beginning.
                int turn = fromX * toY - fromY * toX;
                if (turn == 0 && fromX * toX <= 0 && fromY * toY <= 0) {
                    return RIM;
                }
                if (toY > 0 ? fromY <= 0 && turn > 0 : fromY > 0 && turn < 0) {
                    odd = !odd;
                }
            }
            return odd ? IN : OUT;
        }

        /**
         * The square of the weight times its way from the middle, and times the square of 3 areas, so that nothing
         * is divided; below 4e17, as it is asked of places on the part alone.
         */
        long pull(int px, int py, int weight) {
            long wayX = 3L * area * px - (long) EIGHTHS * momentX;
            long wayY = 3L * area * py - (long) EIGHTHS * momentY;
            return (long) weight * weight * (wayX * wayX + wayY * wayY);
        }

        boolean isSealed(long pull, int s) {
            long strength = 3L * area * s;
            // The square of more would run over a long; no pull comes near it.
            return strength >= SURELY_SEALED || strength * strength >= pull;
        }

        int leastSeal(long pull) {
            int low = 0;
            int high = SURELY_ENOUGH;
            for (int halving = 0; halving < 31 && low < high; halving++) {
                int half = low + (high - low) / 2;
                if (isSealed(pull, half)) {
                    high = half;
                } else {
                    low = half + 1;
                }
            }
            return high;
        }
    }

    /** Fingers, each on an edge at so many eighths of it. */
    private static final class Hand {
        private final int[] edges = new int[MOST_FINGERS];
        private final int[] eighths = new int[MOST_FINGERS];
        private int size;

        int size() {
            return size;
        }

        int edge(int i) {
            return item(edges, i);
        }

        int eighth(int i) {
            return item(eighths, i);
        }

        void clear() {
            size = 0;
        }

        void add(int edge, int k) {
            stand(size, edge, k);
            size++;
        }

        void stand(int i, int edge, int k) {
            setItem(edges, i, edge);
            setItem(eighths, i, k);
        }

        void become(Hand other) {
            clear();
            for (int i = 0; i < other.size(); i++) {
                add(other.edge(i), other.eighth(i));
            }
        }
    }

    /** The triples of all pushes, and the cross product of the two that were looked at last. */
    private static final class Triples {
        static final int FLAT = 0, HALF = 1, WHOLE = 2;
        private static final int SOME_BELOW = 1, SOME_ABOVE = 2, BOTH = 3;

        private final int[] forcesX = new int[2 * MOST_FINGERS];
        private final int[] forcesY = new int[2 * MOST_FINGERS];
        private final int[] turns = new int[2 * MOST_FINGERS];
        private int size;
        private long crossX;
        private long crossY;
        private long crossTurn;

        int size() {
            return size;
        }

        int part(int t, int which) {
            return which == 0 ? item(forcesX, t) : which == 1 ? item(forcesY, t) : item(turns, t);
        }

        void press(Hand hand, Polygon polygon, int friction) {
            size = 0;
            for (int i = 0; i < hand.size(); i++) {
                int edge = hand.edge(i);
                int k = hand.eighth(i);
                int dx = polygon.dx(edge);
                int dy = polygon.dy(edge);
                int x = EIGHTHS * polygon.x(edge) + k * dx;
                int y = EIGHTHS * polygon.y(edge) + k * dy;
                add(x, y, -16 * dy + friction * dx, 16 * dx + friction * dy);
                if (friction != 0) {
                    add(x, y, -16 * dy - friction * dx, 16 * dx - friction * dy);
                }
            }
        }

        private void add(int x, int y, int p, int q) {
            setItem(forcesX, size, p);
            setItem(forcesY, size, q);
            setItem(turns, size, x * q - y * p);
            size++;
        }

        /** Ends at the first two that have all on one side, so that normal() is the witness. */
        int spread() {
            int spread = FLAT;
            for (int u = 0; u < size; u++) {
                for (int v = u + 1; v < size; v++) {
                    if (cross(u, v)) {
                        int signs = signs();
                        if (signs != BOTH) {
                            turnIfBelow(signs);
                            return signs == 0 ? FLAT : HALF;
                        }
                        spread = WHOLE;
                    }
                }
            }
            return spread;
        }

        private void turnIfBelow(int signs) {
            if (signs == SOME_BELOW) {
                crossX = -crossX;
                crossY = -crossY;
                crossTurn = -crossTurn;
            }
        }

        long normal(int which) {
            return which == 0 ? crossX : which == 1 ? crossY : crossTurn;
        }

        /** False, if it is 0: then the two tell nothing of how all lie. */
        private boolean cross(int u, int v) {
            long ux = item(forcesX, u);
            long uy = item(forcesY, u);
            long ut = item(turns, u);
            long vx = item(forcesX, v);
            long vy = item(forcesY, v);
            long vt = item(turns, v);
            crossX = uy * vt - ut * vy;
            crossY = ut * vx - ux * vt;
            crossTurn = ux * vy - uy * vx;
            return crossX != 0 || crossY != 0 || crossTurn != 0;
        }

        private int signs() {
            int signs = 0;
            for (int w = 0; w < size && signs != BOTH; w++) {
                long product = crossX * item(forcesX, w) + crossY * item(forcesY, w) + crossTurn * item(turns, w);
                if (product < 0) {
                    signs |= SOME_BELOW;
                } else if (product > 0) {
                    signs |= SOME_ABOVE;
                }
            }
            return signs;
        }
    }

    /** Places where fingers may be put, each at a price; a set of them is told as bits. */
    private static final class Spots {
        private final int[] edges = new int[MOST_SPOTS];
        private final int[] eighths = new int[MOST_SPOTS];
        private final int[] prices = new int[MOST_SPOTS];
        private int size;

        int size() {
            return size;
        }

        void clear() {
            size = 0;
        }

        void add(int edge, int k, int price) {
            setItem(edges, size, edge);
            setItem(eighths, size, k);
            setItem(prices, size, price);
            size++;
        }

        int price(int set) {
            int sum = 0;
            for (int i = 0; i < size; i++) {
                if ((set >> i & 1) != 0) {
                    sum += item(prices, i);
                }
            }
            return sum;
        }

        /** Sets are asked from the least bits on: so of those that are alike the one that is there stays. */
        boolean isBetter(int set, int best) {
            int less = price(best) - price(set);
            return less > 0 || less == 0 && Integer.bitCount(set) < Integer.bitCount(best);
        }

        void layOut(int set, Hand hand) {
            hand.clear();
            for (int i = 0; i < size; i++) {
                if ((set >> i & 1) != 0) {
                    hand.add(item(edges, i), item(eighths, i));
                }
            }
        }
    }

    /** Places that were touched. */
    private static final class Probes {
        private final int[] xs = new int[MOST_PROBES];
        private final int[] ys = new int[MOST_PROBES];
        private int size;

        int size() {
            return size;
        }

        int x(int i) {
            return item(xs, i);
        }

        int y(int i) {
            return item(ys, i);
        }

        void add(int x, int y) {
            setItem(xs, size, x);
            setItem(ys, size, y);
            size++;
        }
    }

    /** Grips and what the moves between them cost. */
    private static final class Grips {
        private static final int UNREACHED = 1 << 20;

        private final int[] costs = new int[MOST_GRIPS * MOST_GRIPS];
        private final int[] ways = new int[MOST_GRIPS];
        private int size;

        int size() {
            return size;
        }

        void add() {
            size++;
        }

        void join(int a, int b, int cost) {
            setItem(costs, a * MOST_GRIPS + b, cost);
            setItem(costs, b * MOST_GRIPS + a, cost);
        }

        int leastCost(int a, int b) {
            for (int i = 0; i < size; i++) {
                setItem(ways, i, i == a ? 0 : UNREACHED);
            }
            for (int moves = 1; moves < size; moves++) {
                goOneMoveFarther();
            }
            int least = item(ways, b);
            return least < UNREACHED ? least : NONE;
        }

        private void goOneMoveFarther() {
            for (int i = 0; i < size; i++) {
                for (int j = 0; j < size; j++) {
                    int cost = item(costs, i * MOST_GRIPS + j);
                    int through = item(ways, i) + cost;
                    if (cost != 0 && through < item(ways, j)) {
                        setItem(ways, j, through);
                    }
                }
            }
        }
    }

    /** Parts that lie on others; sets of them are told as bits. */
    private static final class Bin {
        private final int[] above = new int[MOST_PARTS];
        private int inside;
        private int dropped;

        int dropped() {
            return dropped;
        }

        int size() {
            return Integer.bitCount(inside);
        }

        void add() {
            inside |= 1 << dropped;
            dropped++;
        }

        void lay(int a, int b) {
            setItem(above, b, item(above, b) | 1 << a);
        }

        boolean isInside(int a) {
            return (inside >> a & 1) != 0;
        }

        boolean isCovered(int a) {
            return (item(above, a) & inside) != 0;
        }

        void remove(int a) {
            inside &= ~(1 << a);
        }

        int stuckBits() {
            int rest = inside;
            for (int round = 0; round < dropped; round++) {
                for (int a = 0; a < dropped; a++) {
                    if ((item(above, a) & rest) == 0) {
                        rest &= ~(1 << a);
                    }
                }
            }
            return rest;
        }

        int withAllAbove(int a) {
            int all = 1 << a;
            for (int round = 0; round < dropped; round++) {
                for (int b = 0; b < dropped; b++) {
                    if ((all >> b & 1) != 0) {
                        all |= item(above, b) & inside;
                    }
                }
            }
            return all;
        }
    }

    /** Rows of numbers of a form, all kept in one row, and the latest finding. */
    private static final class Sheets {
        static final int BYTES = 0, SHORTS = 1, INTS = 2;
        static final int MOST_ITEMS = 60;
        private static final int LOST = -1;

        private final int[] forms = new int[SHEET_COUNT];
        private final int[] lengths = new int[SHEET_COUNT];
        private final int[] items = new int[SHEET_COUNT * MOST_ITEMS];
        private int latestFinding;

        Sheets() {
            for (int s = 0; s < SHEET_COUNT; s++) {
                forget(s);
            }
        }

        int latestFinding() {
            return latestFinding;
        }

        int find(int number) {
            latestFinding = number;
            return -10 - number;
        }

        int form(int s) {
            return item(forms, s);
        }

        int length(int s) {
            return item(lengths, s);
        }

        boolean isLost(int s) {
            return form(s) == LOST;
        }

        void forget(int s) {
            setItem(forms, s, LOST);
            setItem(lengths, s, 0);
        }

        void renew(int s, int form, int n) {
            setItem(forms, s, form);
            setItem(lengths, s, n);
            for (int i = 0; i < MOST_ITEMS; i++) {
                setItem(items, s * MOST_ITEMS + i, 0);
            }
        }

        int value(int s, int i) {
            return item(items, s * MOST_ITEMS + i);
        }

        boolean hasValue(int s, int i, int v) {
            return i < length(s) && value(s, i) == v;
        }

        void write(int s, int i, int v) {
            int kept = form(s) == BYTES ? (byte) v : form(s) == SHORTS ? (short) v : v;
            setItem(items, s * MOST_ITEMS + i, kept);
        }

        /** 0, if there is none. */
        int faultAt(int s, int form, int i) {
            if (isLost(s)) {
                return NULL;
            }
            if (form(s) != form) {
                return CAST;
            }
            return i < 0 || i >= length(s) ? INDEX : 0;
        }

        boolean hasRun(int s, int from, int n) {
            return from >= 0 && n >= 0 && n <= length(s) - from;
        }
    }
}
