/**
 * Weighted nearest regions in a box of points: sites with weights, and powers in place of distances.
 *
 * Nothing that can be worked out from the sites is kept between calls, so no answer can be out of date.
 * All arrays are made with the object and used again, so a call makes next to nothing.
 */
public final class PowerPlot {
    public static final int NONE = -1;
    public static final int BOX = -2, SAME = -3;

    private static final int LAST = 40;
    private static final int MOST_SITES = 12;
    private static final int MOST_WEIGHT = 999;
    private static final int MOST_CAPACITY = 1681;
    private static final int MOST_TIMES = 20;

    private final Places places;
    private final Cells cells;
    private final Hull hull;
    private final Border border;
    private final Scales scales;

    public PowerPlot() {
        places = new Places();
        cells = new Cells(places);
        hull = new Hull(places);
        border = new Border(places);
        scales = new Scales(places, cells);
    }

    // ---- sites

    public int site(int x, int y, int weight) throws IllegalArgumentException, IllegalStateException {
        needPoint(x, y);
        needWithin(weight, -MOST_WEIGHT, MOST_WEIGHT);
        if (places.count >= MOST_SITES) {
            throw new IllegalStateException("there are as many sites as there may be");
        }
        return places.add(x, y, weight);
    }

    public void move(int site, int x, int y) throws IndexOutOfBoundsException, IllegalArgumentException {
        needSite(site);
        needPoint(x, y);
        places.xs.put(site, x);
        places.ys.put(site, y);
    }

    public int weight(int site, int weight) throws IndexOutOfBoundsException, IllegalArgumentException {
        needSite(site);
        needWithin(weight, -MOST_WEIGHT, MOST_WEIGHT);
        int before = places.weights.at(site);
        places.weights.put(site, weight);
        return before;
    }

    public int capacity(int site, int capacity) throws IndexOutOfBoundsException, IllegalArgumentException {
        needSite(site);
        needWithin(capacity, 0, MOST_CAPACITY);
        int before = places.capacities.at(site);
        places.capacities.put(site, capacity);
        return before;
    }

    public int balance(int by, int times) throws IllegalArgumentException, IllegalStateException {
        needBalance(by, times);
        return scales.repeat(by, times);
    }

    // ---- what is asked

    public int sites() {
        return places.count;
    }

    public int ofSite(int site, int what) throws IndexOutOfBoundsException, IllegalArgumentException {
        needSite(site);
        needWithin(what, 0, 5);
        switch (what) {
            case 0:
                return places.xs.at(site);
            case 1:
                return places.ys.at(site);
            case 2:
                return places.weights.at(site);
            case 3:
                return places.capacities.at(site);
            case 4:
                return places.heightOf(site);
            default:
                return scales.excessOf(site);
        }
    }

    public int power(int site, int x, int y) throws IndexOutOfBoundsException, IllegalArgumentException {
        needSite(site);
        needPoint(x, y);
        return places.powerAt(site, x, y);
    }

    public int owner(int x, int y) throws IllegalArgumentException {
        needPoint(x, y);
        return cells.ownerAt(x, y);
    }

    public int share(int site) throws IndexOutOfBoundsException {
        needSite(site);
        return cells.countByRows(site);
    }

    public int shareAnew(int site) throws IndexOutOfBoundsException {
        needSite(site);
        return cells.countByPoints(site);
    }

    public int inRow(int site, int y, boolean isLast) throws IndexOutOfBoundsException, IllegalArgumentException {
        needSite(site);
        needWithin(y, 0, LAST);
        cells.findSpan(site, y);
        if (cells.width() == 0) {
            return NONE;
        }
        return isLast ? cells.last : cells.first;
    }

    public boolean isHidden(int site) throws IndexOutOfBoundsException {
        needSite(site);
        return hull.isAbove(site);
    }

    public boolean hasBorder(int site, int other) throws IndexOutOfBoundsException {
        needSite(site);
        needSite(other);
        return border.trace(site, other) == NONE;
    }

    public int why(int site, int other) throws IndexOutOfBoundsException {
        needSite(site);
        needSite(other);
        return border.trace(site, other);
    }

    public long ofEnd(int site, int other, int end, int what)
            throws IndexOutOfBoundsException, IllegalArgumentException, IllegalStateException {
        needSite(site);
        needSite(other);
        needWithin(end, 0, 1);
        needWithin(what, 0, 3);
        if (border.trace(site, other) != NONE) {
            throw new IllegalStateException("there is no border");
        }
        return border.partOfEnd(end, what);
    }

    public int beside(int site) throws IndexOutOfBoundsException {
        needSite(site);
        int borders = 0;
        for (int other = 0; other < places.count; other++) {
            if (border.trace(site, other) == NONE) {
                borders++;
            }
        }
        return borders;
    }

    public int disorder() {
        return scales.weighAll();
    }

    public int would(int by, int times) throws IllegalArgumentException, IllegalStateException {
        needBalance(by, times);
        scales.keepWeights();
        scales.repeat(by, times);
        int disorder = scales.weighAll();
        scales.putWeightsBack();
        return disorder;
    }

    public char sign(int site, int place) throws IndexOutOfBoundsException {
        needSite(site);
        if (place < 0) {
            throw new IndexOutOfBoundsException("a place is not below 0");
        }
        StringBuilder text = new StringBuilder();
        places.write(site, text);
        return place < text.length() ? text.charAt(place) : ' ';
    }

    // ---- what the arguments must be

    private void needSite(int site) {
        if (site < 0 || site >= places.count) {
            throw new IndexOutOfBoundsException("there is no such site");
        }
    }

    private static void needWithin(int number, int least, int most) {
        if (number < least || number > most) {
            throw new IllegalArgumentException("a number is out of its range");
        }
    }

    private static void needPoint(int x, int y) {
        needWithin(x, 0, LAST);
        needWithin(y, 0, LAST);
    }

    private void needBalance(int by, int times) {
        needWithin(by, 1, MOST_WEIGHT);
        needWithin(times, 1, MOST_TIMES);
        if (places.count == 0) {
            throw new IllegalStateException("there is no site");
        }
    }

    /** A number for each site. The only class that touches an array, so that no index is used untested. */
    private static final class Row {
        private final int[] numbers = new int[MOST_SITES];

        int at(int site) {
            return site >= 0 && site < numbers.length ? numbers[site] : 0;
        }

        void put(int site, int number) {
            if (site >= 0 && site < numbers.length) {
                numbers[site] = number;
            }
        }
    }

    /** The sites, as they were told. */
    private static final class Places {
        final Row xs = new Row();
        final Row ys = new Row();
        final Row weights = new Row();
        final Row capacities = new Row();
        int count;

        int add(int x, int y, int weight) {
            int site = count;
            xs.put(site, x);
            ys.put(site, y);
            weights.put(site, weight);
            count = site + 1;
            return site;
        }

        int powerAt(int site, int x, int y) {
            int dx = x - xs.at(site);
            int dy = y - ys.at(site);
            return dx * dx + dy * dy - weights.at(site);
        }

        int heightOf(int site) {
            return powerAt(site, 0, 0);
        }

        void write(int site, StringBuilder text) {
            int weight = weights.at(site);
            text.append(xs.at(site));
            text.append(',');
            text.append(ys.at(site));
            text.append(weight < 0 ? '-' : '+');
            text.append(Math.abs(weight));
        }
    }

    /** Who owns which points: by rows, and once more point by point. */
    private static final class Cells {
        private final Places places;
        int first;
        int last;

        Cells(Places places) {
            this.places = places;
        }

        int ownerAt(int x, int y) {
            int owner = NONE;
            int least = 0;
            for (int site = 0; site < places.count; site++) {
                int power = places.powerAt(site, x, y);
                if (owner == NONE || power < least) {
                    owner = site;
                    least = power;
                }
            }
            return owner;
        }

        int countByPoints(int site) {
            int points = 0;
            for (int y = 0; y <= LAST; y++) {
                for (int x = 0; x <= LAST; x++) {
                    if (ownerAt(x, y) == site) {
                        points++;
                    }
                }
            }
            return points;
        }

        int countByRows(int site) {
            int points = 0;
            for (int y = 0; y <= LAST; y++) {
                findSpan(site, y);
                points += width();
            }
            return points;
        }

        /**
         * Sets first and last. Along a row the powers of two sites differ by a line, slope * x - room:
         * so each other site leaves of the row what is on one side of a point.
         */
        void findSpan(int site, int y) {
            first = 0;
            last = LAST;
            int ownPower = places.powerAt(site, 0, y);
            for (int other = 0; other < places.count; other++) {
                // A lower site wins a tie, so against it the power must be less by one at least.
                int room = places.powerAt(other, 0, y) - ownPower - (other < site ? 1 : 0);
                int slope = 2 * (places.xs.at(other) - places.xs.at(site));
                if (slope > 0) {
                    last = Math.min(last, Math.floorDiv(room, slope));
                } else if (slope < 0) {
                    first = Math.max(first, -Math.floorDiv(room, -slope));
                } else if (room < 0) {
                    last = NONE;
                }
            }
        }

        int width() {
            return Math.max(0, last - first + 1);
        }
    }

    /**
     * The lower hull of the lifted places. Places and heights are taken from the site that is asked about,
     * so that it lies at 0, 0 at the height 0, and what lies there on the hull of others is a weighted sum.
     */
    private static final class Hull {
        private final Places places;
        private final Row dxs = new Row();
        private final Row dys = new Row();
        private final Row heights = new Row();

        Hull(Places places) {
            this.places = places;
        }

        boolean isAbove(int site) {
            lookFrom(site);
            for (int a = 0; a < places.count; a++) {
                if (a != site && (isOnPoint(a) || isAboveAny(site, a))) {
                    return true;
                }
            }
            return false;
        }

        private void lookFrom(int site) {
            for (int other = 0; other < places.count; other++) {
                dxs.put(other, places.xs.at(other) - places.xs.at(site));
                dys.put(other, places.ys.at(other) - places.ys.at(site));
                heights.put(other, places.heightOf(other) - places.heightOf(site));
            }
        }

        private boolean isAboveAny(int site, int a) {
            for (int b = a + 1; b < places.count; b++) {
                if (b != site && (isOnSegment(a, b) || isAboveAnyTriangle(site, a, b))) {
                    return true;
                }
            }
            return false;
        }

        private boolean isAboveAnyTriangle(int site, int a, int b) {
            for (int c = b + 1; c < places.count; c++) {
                if (c != site && isOnTriangle(a, b, c)) {
                    return true;
                }
            }
            return false;
        }

        private boolean isOnPoint(int a) {
            return dxs.at(a) == 0 && dys.at(a) == 0 && heights.at(a) <= 0;
        }

        private boolean isOnSegment(int a, int b) {
            int between = dot(a, b);
            if (cross(a, b) != 0 || between > 0) {
                return false;
            }
            int ofA = dot(b, b) - between;
            int ofB = dot(a, a) - between;
            // Their sum is the square of the length: two at one place are no segment.
            return ofA + ofB > 0 && ofA * heights.at(a) + ofB * heights.at(b) <= 0;
        }

        private boolean isOnTriangle(int a, int b, int c) {
            int ofA = cross(b, c);
            int ofB = cross(c, a);
            int ofC = cross(a, b);
            int area = ofA + ofB + ofC;
            int turn = area < 0 ? -1 : 1;
            if (area == 0 || turn * ofA < 0 || turn * ofB < 0 || turn * ofC < 0) {
                return false;
            }
            return turn * (ofA * heights.at(a) + ofB * heights.at(b) + ofC * heights.at(c)) <= 0;
        }

        private int cross(int a, int b) {
            return dxs.at(a) * dys.at(b) - dxs.at(b) * dys.at(a);
        }

        private int dot(int a, int b) {
            return dxs.at(a) * dxs.at(b) + dys.at(a) * dys.at(b);
        }
    }

    /** A fraction; what stands below its stroke is above 0. */
    private static final class Fraction {
        long top;
        long bottom = 1;

        void set(long newTop, long newBottom) {
            top = newTop;
            bottom = newBottom;
        }

        boolean isLess(long otherTop, long otherBottom) {
            return top * otherBottom < otherTop * bottom;
        }

        boolean isMore(long otherTop, long otherBottom) {
            return top * otherBottom > otherTop * bottom;
        }

        void shorten() {
            long divisor = Math.abs(top);
            long rest = bottom;
            // Two longs have no more than some ninety steps.
            for (int step = 0; step < 100 && rest != 0; step++) {
                long next = divisor % rest;
                divisor = rest;
                rest = next;
            }
            if (divisor > 0) {
                top = top / divisor;
                bottom = bottom / divisor;
            }
        }
    }

    /**
     * The border of two sites, cut off the line on which they have the same power. On this line
     * 2 * runFactor * run + 2 * sideFactor * side = level, where run is x and side is y; but on an
     * upright line, where x can't tell one point from another, run is y and side is x.
     */
    private static final class Border {
        private final Places places;
        private final Fraction low = new Fraction();
        private final Fraction high = new Fraction();
        private final Fraction told = new Fraction();
        private boolean isUpright;
        private boolean isEmpty;
        private long runFactor;
        private long sideFactor;
        private long level;

        Border(Places places) {
            this.places = places;
        }

        /** Returns the cause that there is no border; if there is one, its ends are low and high. */
        int trace(int site, int other) {
            if (isSamePlace(site, other)) {
                return SAME;
            }
            layLine(site, other);
            cutByBox();
            if (isGone()) {
                return BOX;
            }
            for (int third = 0; third < places.count; third++) {
                if (third != site && third != other) {
                    cutBySite(site, third);
                    if (isGone()) {
                        return third;
                    }
                }
            }
            return NONE;
        }

        /** The border must have been traced. */
        long partOfEnd(int end, int what) {
            Fraction run = end == 0 ? low : high;
            boolean isOfX = what < 2;
            if (isOfX != isUpright) {
                told.set(run.top, run.bottom);
            } else {
                told.set(level * run.bottom - 2 * runFactor * run.top, 2 * sideFactor * run.bottom);
            }
            told.shorten();
            return what == 0 || what == 2 ? told.top : told.bottom;
        }

        private boolean isSamePlace(int site, int other) {
            return places.xs.at(site) == places.xs.at(other) && places.ys.at(site) == places.ys.at(other);
        }

        private void layLine(int site, int other) {
            int dx = places.xs.at(other) - places.xs.at(site);
            int dy = places.ys.at(other) - places.ys.at(site);
            isUpright = dy == 0;
            int side = isUpright ? dx : dy;
            // With the side's factor above 0, cutting need not turn its comparison round.
            int turn = side < 0 ? -1 : 1;
            runFactor = turn * (isUpright ? dy : dx);
            sideFactor = turn * side;
            level = turn * (places.heightOf(other) - places.heightOf(site));
        }

        private void cutByBox() {
            isEmpty = false;
            low.set(0, 1);
            high.set(LAST, 1);
            cut(0, -1, 0);
            cut(0, 1, 2 * LAST);
        }

        private void cutBySite(int site, int third) {
            int dx = places.xs.at(third) - places.xs.at(site);
            int dy = places.ys.at(third) - places.ys.at(site);
            int limit = places.heightOf(third) - places.heightOf(site);
            cut(isUpright ? dy : dx, isUpright ? dx : dy, limit);
        }

        /** Leaves of the line where 2 * ofRun * run + 2 * ofSide * side is no more than the limit. */
        private void cut(long ofRun, long ofSide, long limit) {
            long slope = 2 * (ofRun * sideFactor - ofSide * runFactor);
            long room = limit * sideFactor - ofSide * level;
            if (slope > 0) {
                if (high.isMore(room, slope)) {
                    high.set(room, slope);
                }
            } else if (slope < 0) {
                if (low.isLess(-room, -slope)) {
                    low.set(-room, -slope);
                }
            } else if (room < 0) {
                isEmpty = true;
            }
        }

        private boolean isGone() {
            return isEmpty || !low.isLess(high.top, high.bottom);
        }
    }

    /** Weights against capacities. */
    private static final class Scales {
        private final Places places;
        private final Cells cells;
        private final Row excesses = new Row();
        private final Row kept = new Row();

        Scales(Places places, Cells cells) {
            this.places = places;
            this.cells = cells;
        }

        /** Sets the excesses, and returns the disorder. */
        int weighAll() {
            int disorder = 0;
            for (int site = 0; site < places.count; site++) {
                int excess = cells.countByRows(site) - places.capacities.at(site);
                excesses.put(site, excess);
                disorder += Math.abs(excess);
            }
            return disorder;
        }

        int excessOf(int site) {
            weighAll();
            return excesses.at(site);
        }

        /** Returns how many times were not taken back. */
        int repeat(int by, int times) {
            int ahead = weighAll();
            for (int done = 0; done < times; done++) {
                int great = siteOfGreatest();
                int small = siteOfLeast();
                if (great == small) {
                    return done;
                }
                int weightOfGreat = places.weights.at(great);
                int weightOfSmall = places.weights.at(small);
                places.weights.put(great, Math.max(-MOST_WEIGHT, weightOfGreat - by));
                places.weights.put(small, Math.min(MOST_WEIGHT, weightOfSmall + by));
                int behind = weighAll();
                if (behind >= ahead) {
                    places.weights.put(great, weightOfGreat);
                    places.weights.put(small, weightOfSmall);
                    return done;
                }
                ahead = behind;
            }
            return times;
        }

        void keepWeights() {
            for (int site = 0; site < places.count; site++) {
                kept.put(site, places.weights.at(site));
            }
        }

        void putWeightsBack() {
            for (int site = 0; site < places.count; site++) {
                places.weights.put(site, kept.at(site));
            }
        }

        private int siteOfGreatest() {
            int found = 0;
            for (int site = 1; site < places.count; site++) {
                if (excesses.at(site) > excesses.at(found)) {
                    found = site;
                }
            }
            return found;
        }

        private int siteOfLeast() {
            int found = 0;
            for (int site = 1; site < places.count; site++) {
                if (excesses.at(site) < excesses.at(found)) {
                    found = site;
                }
            }
            return found;
        }
    }
}
