import java.util.ArrayList;
import java.util.List;

/**
 * Stands before an object, and makes a new one by the same changes ahead of its 513th call: nothing is promised of
 * an object behind its 512th. So a test may ask as much as it likes.
 */
final class Plot {
    static final int MOST_CALLS = 512;

    private interface Change {
        void on(PowerPlot object);
    }

    private final List<Change> changes = new ArrayList<>();
    private PowerPlot object = new PowerPlot();
    private int calls = 0;

    /** Sites as x, y and weight, one behind the other. */
    static Plot of(int... numbers) {
        Plot plot = new Plot();
        for (int i = 0; i + 2 < numbers.length; i += 3) {
            plot.site(numbers[i], numbers[i + 1], numbers[i + 2]);
        }
        return plot;
    }

    /** Sites as x, y, weight and capacity, one behind the other. */
    static Plot withCapacities(int... numbers) {
        Plot plot = new Plot();
        for (int i = 0; i + 3 < numbers.length; i += 4) {
            plot.capacity(plot.site(numbers[i], numbers[i + 1], numbers[i + 2]), numbers[i + 3]);
        }
        return plot;
    }

    /** A new object with the same changes behind it; nothing was asked of it, and nothing refused. */
    Plot again() {
        Plot again = new Plot();
        again.changes.addAll(changes);
        again.renew();
        return again;
    }

    /** Sees to it that so many calls more are of one and the same object. */
    void room(int needed) {
        if (calls + needed > MOST_CALLS) {
            renew();
        }
        if (calls + needed > MOST_CALLS) {
            throw new AssertionError("a test asks for more calls of one object than there may be");
        }
    }

    private void renew() {
        object = new PowerPlot();
        calls = changes.size();
        for (Change change : changes) {
            change.on(object);
        }
    }

    private PowerPlot next() {
        room(1);
        calls++;
        return object;
    }

    int site(int x, int y, int weight) {
        int site = next().site(x, y, weight);
        changes.add(object -> object.site(x, y, weight));
        return site;
    }

    void move(int site, int x, int y) {
        next().move(site, x, y);
        changes.add(object -> object.move(site, x, y));
    }

    int weight(int site, int weight) {
        int before = next().weight(site, weight);
        changes.add(object -> object.weight(site, weight));
        return before;
    }

    int capacity(int site, int capacity) {
        int before = next().capacity(site, capacity);
        changes.add(object -> object.capacity(site, capacity));
        return before;
    }

    int balance(int by, int times) {
        int done = next().balance(by, times);
        changes.add(object -> object.balance(by, times));
        return done;
    }

    int sites() {
        return next().sites();
    }

    int ofSite(int site, int what) {
        return next().ofSite(site, what);
    }

    int power(int site, int x, int y) {
        return next().power(site, x, y);
    }

    int owner(int x, int y) {
        return next().owner(x, y);
    }

    int share(int site) {
        return next().share(site);
    }

    int shareAnew(int site) {
        return next().shareAnew(site);
    }

    int inRow(int site, int y, boolean isLast) {
        return next().inRow(site, y, isLast);
    }

    boolean isHidden(int site) {
        return next().isHidden(site);
    }

    boolean hasBorder(int site, int other) {
        return next().hasBorder(site, other);
    }

    int why(int site, int other) {
        return next().why(site, other);
    }

    long ofEnd(int site, int other, int end, int what) {
        return next().ofEnd(site, other, end, what);
    }

    int beside(int site) {
        return next().beside(site);
    }

    int disorder() {
        return next().disorder();
    }

    int would(int by, int times) {
        return next().would(by, times);
    }

    char sign(int site, int place) {
        return next().sign(site, place);
    }
}
