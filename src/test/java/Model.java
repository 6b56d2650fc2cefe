import java.math.BigInteger;

/**
 * The document once more, told as literally as can be and by other ways than the program's: all counts point
 * by point, hiding by whether the unlike powers leave a place in the plane, borders by exact fractions along a line.
 */
final class Model {
    static final int NONE = -1, BOX = -2, SAME = -3;

    final int[] x = new int[12], y = new int[12], weight = new int[12], capacity = new int[12];
    int count = 0;

    int add(int newX, int newY, int newWeight) {
        x[count] = newX;
        y[count] = newY;
        weight[count] = newWeight;
        return count++;
    }

    int move(int site, int newX, int newY) {
        x[site] = newX;
        y[site] = newY;
        return 0;
    }

    int tellWeight(int site, int newWeight) {
        int before = weight[site];
        weight[site] = newWeight;
        return before;
    }

    int tellCapacity(int site, int newCapacity) {
        int before = capacity[site];
        capacity[site] = newCapacity;
        return before;
    }

    Model copy() {
        Model copy = new Model();
        copy.count = count;
        System.arraycopy(x, 0, copy.x, 0, count);
        System.arraycopy(y, 0, copy.y, 0, count);
        System.arraycopy(weight, 0, copy.weight, 0, count);
        System.arraycopy(capacity, 0, copy.capacity, 0, count);
        return copy;
    }

    /** As Snapshot.of tells it. */
    String snapshot() {
        StringBuilder text = new StringBuilder().append(count);
        for (int site = 0; site < count; site++) {
            text.append(" / ").append(x[site]).append(' ').append(y[site]);
            text.append(' ').append(weight[site]).append(' ').append(capacity[site]);
        }
        return text.toString();
    }

    int ofSite(int site, int what) {
        int[] all = {x[site], y[site], weight[site], capacity[site], height(site), shares()[site] - capacity[site]};
        return all[what];
    }

    int power(int site, int px, int py) {
        return (px - x[site]) * (px - x[site]) + (py - y[site]) * (py - y[site]) - weight[site];
    }

    int height(int site) {
        return x[site] * x[site] + y[site] * y[site] - weight[site];
    }

    int owner(int px, int py) {
        int owner = NONE;
        for (int site = count - 1; site >= 0; site--) {
            if (owner == NONE || power(site, px, py) <= power(owner, px, py)) {
                owner = site;
            }
        }
        return owner;
    }

    int[] shares() {
        int[] shares = new int[count];
        for (int px = 0; px <= 40; px++) {
            for (int py = 0; py <= 40 && count > 0; py++) {
                shares[owner(px, py)]++;
            }
        }
        return shares;
    }

    /** In a row: the first x, the last x, and whether all between them are owned as well (1 or 0). */
    int[] row(int site, int py) {
        int first = NONE, last = NONE, owned = 0;
        for (int px = 0; px <= 40; px++) {
            if (owner(px, py) == site) {
                first = first == NONE ? px : first;
                last = px;
                owned++;
            }
        }
        return new int[] {first, last, owned == 0 || owned == last - first + 1 ? 1 : 0};
    }

    // ---- hidden

    /**
     * Whether no place in the plane has a power of the site less than that of each other: each other site asks
     * a * x + b * y less than c; taking two with b above and below 0 together leaves what is asked of x alone.
     */
    boolean hidden(int site) {
        long[][] asked = new long[count][];
        int n = 0;
        for (int other = 0; other < count; other++) {
            if (other != site) {
                asked[n++] = new long[] {2L * (x[other] - x[site]), 2L * (y[other] - y[site]), height(other) - height(site)};
            }
        }
        long[][] ofX = new long[n * n + n][];
        int m = 0;
        for (int i = 0; i < n; i++) {
            if (asked[i][1] == 0) {
                ofX[m++] = new long[] {asked[i][0], asked[i][2]};
            }
            for (int j = 0; j < n; j++) {
                if (asked[i][1] > 0 && asked[j][1] < 0) {
                    long up = asked[i][1], down = -asked[j][1];
                    ofX[m++] = new long[] {asked[i][0] * down + asked[j][0] * up, asked[i][2] * down + asked[j][2] * up};
                }
            }
        }
        return !leavesAnX(ofX, m);
    }

    private static boolean leavesAnX(long[][] asked, int m) {
        for (int i = 0; i < m; i++) {
            if (asked[i][0] == 0 && asked[i][1] <= 0) {
                return false;
            }
            for (int j = 0; j < m; j++) {
                if (asked[i][0] > 0 && asked[j][0] < 0 && asked[i][1] * -asked[j][0] + asked[j][1] * asked[i][0] <= 0) {
                    return false;
                }
            }
        }
        return true;
    }

    // ---- borders

    /** A place on a line: fractions, exact. */
    private record Fraction(BigInteger top, BigInteger bottom) {
        static Fraction of(long top, long bottom) {
            return new Fraction(BigInteger.valueOf(top), BigInteger.valueOf(bottom)).shortened();
        }

        Fraction shortened() {
            BigInteger common = top.gcd(bottom);
            BigInteger by = bottom.signum() < 0 ? common.negate() : common;
            return new Fraction(top.divide(by), bottom.divide(by));
        }

        Fraction plus(Fraction f) {
            return new Fraction(top.multiply(f.bottom).add(f.top.multiply(bottom)), bottom.multiply(f.bottom)).shortened();
        }

        Fraction times(Fraction f) {
            return new Fraction(top.multiply(f.top), bottom.multiply(f.bottom)).shortened();
        }

        Fraction minus(Fraction f) {
            return plus(f.times(of(-1, 1)));
        }

        Fraction over(Fraction f) {
            return new Fraction(top.multiply(f.bottom), bottom.multiply(f.top)).shortened();
        }

        int sign() {
            return top.signum();
        }

        String text() {
            return top + "/" + bottom;
        }
    }

    private Fraction lineX0, lineY0, lineDx, lineDy, from, to;
    private boolean isNothing;

    /** As Snapshot.border tells it. */
    String border(int site, int other) {
        int cause = cause(site, other);
        if (cause != NONE) {
            return "none by " + cause;
        }
        Fraction first = end(0);
        Fraction second = end(1);
        return xAt(first).text() + "," + yAt(first).text() + " " + xAt(second).text() + "," + yAt(second).text();
    }

    /** There must be a border. */
    long ofEnd(int site, int other, int end, int what) {
        cause(site, other);
        Fraction of = what < 2 ? xAt(end(end)) : yAt(end(end));
        return (what % 2 == 0 ? of.top : of.bottom).longValueExact();
    }

    int beside(int site) {
        int borders = 0;
        for (int other = 0; other < count; other++) {
            borders += cause(site, other) == NONE ? 1 : 0;
        }
        return borders;
    }

    /** Where an end is on the line whose cause was asked last. */
    private Fraction end(int end) {
        boolean isForth = xAt(from).minus(xAt(to)).sign() < 0
            || xAt(from).minus(xAt(to)).sign() == 0 && yAt(from).minus(yAt(to)).sign() < 0;
        return isForth == (end == 0) ? from : to;
    }

    int cause(int site, int other) {
        if (x[site] == x[other] && y[site] == y[other]) {
            return SAME;
        }
        int a = x[other] - x[site], b = y[other] - y[site];
        int h = height(other) - height(site), square = a * a + b * b;
        lineX0 = Fraction.of((long) h * a, 2L * square);
        lineY0 = Fraction.of((long) h * b, 2L * square);
        lineDx = Fraction.of(-b, 1);
        lineDy = Fraction.of(a, 1);
        from = null;
        to = null;
        isNothing = false;
        Fraction zero = Fraction.of(0, 1), one = Fraction.of(1, 1), forty = Fraction.of(40, 1);
        keepNotBelow0(xAt(zero), xAt(one));
        keepNotBelow0(forty.minus(xAt(zero)), forty.minus(xAt(one)));
        keepNotBelow0(yAt(zero), yAt(one));
        keepNotBelow0(forty.minus(yAt(zero)), forty.minus(yAt(one)));
        if (isOver()) {
            return BOX;
        }
        for (int third = 0; third < count; third++) {
            if (third != site && third != other) {
                keepNotBelow0(powerOn(third, zero).minus(powerOn(site, zero)),
                    powerOn(third, one).minus(powerOn(site, one)));
                if (isOver()) {
                    return third;
                }
            }
        }
        return NONE;
    }

    private Fraction xAt(Fraction t) {
        return lineX0.plus(lineDx.times(t));
    }

    private Fraction yAt(Fraction t) {
        return lineY0.plus(lineDy.times(t));
    }

    private Fraction powerOn(int site, Fraction t) {
        Fraction dx = xAt(t).minus(Fraction.of(x[site], 1)), dy = yAt(t).minus(Fraction.of(y[site], 1));
        return dx.times(dx).plus(dy.times(dy)).minus(Fraction.of(weight[site], 1));
    }

    /** Keeps what is not below 0, of a difference that is even along the line and told at its 0 and 1. */
    private void keepNotBelow0(Fraction at0, Fraction at1) {
        Fraction slope = at1.minus(at0);
        if (slope.sign() == 0) {
            isNothing |= at0.sign() < 0;
            return;
        }
        Fraction root = Fraction.of(0, 1).minus(at0).over(slope);
        if (slope.sign() > 0 && (from == null || root.minus(from).sign() > 0)) {
            from = root;
        }
        if (slope.sign() < 0 && (to == null || root.minus(to).sign() < 0)) {
            to = root;
        }
    }

    private boolean isOver() {
        return isNothing || from != null && to != null && to.minus(from).sign() <= 0;
    }

    // ---- balance

    int disorder() {
        int[] shares = shares();
        int sum = 0;
        for (int site = 0; site < count; site++) {
            sum += Math.abs(shares[site] - capacity[site]);
        }
        return sum;
    }

    int balance(int by, int times) {
        int done = 0;
        while (done < times) {
            int ahead = disorder();
            int[] weights = weight.clone();
            once(by);
            if (disorder() >= ahead) {
                System.arraycopy(weights, 0, weight, 0, weights.length);
                break;
            }
            done++;
        }
        return done;
    }

    private void once(int by) {
        int[] shares = shares();
        int great = 0, small = 0;
        for (int site = 0; site < count; site++) {
            int excess = shares[site] - capacity[site];
            great = excess > shares[great] - capacity[great] ? site : great;
            small = excess < shares[small] - capacity[small] ? site : small;
        }
        if (shares[great] - capacity[great] != shares[small] - capacity[small]) {
            weight[great] = Math.max(weight[great] - by, -999);
            weight[small] = Math.min(weight[small] + by, 999);
        }
    }

    int would(int by, int times) {
        int[] weights = weight.clone();
        balance(by, times);
        int disorder = disorder();
        System.arraycopy(weights, 0, weight, 0, weights.length);
        return disorder;
    }

    char sign(int site, int place) {
        String text = text(site);
        return place < text.length() ? text.charAt(place) : ' ';
    }

    String text(int site) {
        return x[site] + "," + y[site] + (weight[site] < 0 ? "" : "+") + weight[site];
    }
}
