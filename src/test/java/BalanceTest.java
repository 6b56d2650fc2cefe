/** Promises 6, 19 and 20: balancing, the disorder, and what it would be. */
public final class BalanceTest {
    private static final Class<IllegalArgumentException> WRONG = IllegalArgumentException.class;
    private static final Class<IllegalStateException> NO_SITES = IllegalStateException.class;
    private static final int LEAST = Integer.MIN_VALUE, MOST = Integer.MAX_VALUE;
    private static final Check check = new Check("BalanceTest");

    public static void main(String[] args) {
        tellsDisorder();
        balancesOnce();
        takesBack();
        stopsAtTheEndsOfWeights();
        takesTheLowest();
        goesOnAsLongAsItHelps();
        leavesAlone();
        refuses();
        check.end();
    }

    private static void weights(Plot plot, int... due) {
        for (int site = 0; site < due.length; site++) {
            check.due("the weight of " + site, plot.ofSite(site, 2), due[site]);
        }
    }

    /** Asks what would be, which must change nothing, and then balances. */
    private static void balance(Plot plot, int by, int times, int due, int disorder) {
        check.asks("would", plot, () -> check.due("would", plot.would(by, times), disorder));
        check.due("balance(" + by + ", " + times + ")", plot.balance(by, times), due);
        check.due("the disorder behind it", plot.disorder(), disorder);
    }

    private static void tellsDisorder() {
        check.due("disorder without sites", new Plot().disorder(), 0);
        Plot plot = Plot.withCapacities(10, 20, 0, 0, 30, 20, 0, 0);
        check.asks("disorder", plot, () -> check.due("disorder", plot.disorder(), 1681));
        plot.capacity(0, 861);
        plot.capacity(1, 820);
        check.due("disorder", plot.disorder(), 0);
        plot.capacity(0, 1681);
        check.due("disorder with one below 0", plot.disorder(), 820);
        plot.capacity(1, 1681);
        check.due("disorder with both below 0", plot.disorder(), 820 + 861);
        plot.capacity(1, 10);
        check.due("disorder with unlike signs", plot.disorder(), 820 + 810);
    }

    private static void balancesOnce() {
        Plot plot = Plot.withCapacities(10, 20, 0, 820, 30, 20, 0, 861);
        check.due("disorder ahead", plot.disorder(), 82);
        balance(plot, 20, 1, 1, 0);
        weights(plot, -20, 20);
        Plot other = Plot.withCapacities(10, 20, 0, 902, 30, 20, 0, 779);
        balance(other, 20, 1, 1, 0);
        weights(other, 20, -20);
    }

    private static void takesBack() {
        Plot plot = Plot.withCapacities(10, 20, 0, 820, 30, 20, 0, 861);
        balance(plot, 400, 20, 0, 82);
        weights(plot, 0, 0);
        // As much behind as ahead is not less: without capacities the disorder stays what all own.
        Plot even = Plot.withCapacities(10, 20, 0, 0, 30, 20, 0, 0);
        balance(even, 20, 1, 0, 1681);
        weights(even, 0, 0);
        // The first time helps, and the next finds all alike.
        Plot once = Plot.withCapacities(10, 20, 0, 820, 30, 20, 0, 861);
        balance(once, 20, 20, 1, 0);
        weights(once, -20, 20);
    }

    private static void stopsAtTheEndsOfWeights() {
        // A second time would have 88: more than 76, though less than at first.
        Plot twice = Plot.withCapacities(10, 20, -990, 700, 30, 20, -999, 981);
        balance(twice, 100, 20, 1, 76);
        weights(twice, -999, -899);
        Plot least = Plot.withCapacities(10, 20, -990, 700, 30, 20, -999, 981);
        check.due("disorder ahead", least.disorder(), 322);
        balance(least, 100, 1, 1, 76);
        weights(least, -999, -899);
        balance(least, 100, 1, 0, 76);
        weights(least, -999, -899);
        Plot most = Plot.withCapacities(10, 20, 985, 700, 30, 20, 990, 981);
        check.due("disorder ahead", most.disorder(), 240);
        balance(most, 100, 1, 1, 76);
        weights(most, 885, 999);
    }

    private static void takesTheLowest() {
        // Excesses 41, 41 and -82.
        Plot great = Plot.withCapacities(5, 20, 0, 492, 20, 20, 0, 574, 35, 20, 0, 615);
        check.due("disorder ahead", great.disorder(), 164);
        balance(great, 31, 1, 1, 82);
        weights(great, -31, 0, 31);
        // Excesses 82, -41 and -41.
        Plot small = Plot.withCapacities(5, 20, 0, 451, 20, 20, 0, 656, 35, 20, 0, 574);
        check.due("disorder ahead", small.disorder(), 164);
        balance(small, 10, 1, 1, 82);
        weights(small, -10, 10, 0);
    }

    private static void goesOnAsLongAsItHelps() {
        // The first one owns 21 columns, and each time takes one of them, as 40 x is less by 40.
        for (int times = 1; times < 5; times++) {
            Plot plot = Plot.withCapacities(10, 20, 0, 16 * 41, 30, 20, 0, 25 * 41);
            balance(plot, 20, times, times, 2 * 41 * (21 - times - 16));
            weights(plot, -20 * times, 20 * times);
        }
        Plot plot = Plot.withCapacities(10, 20, 0, 16 * 41, 30, 20, 0, 25 * 41);
        balance(plot, 20, 20, 5, 0);
        weights(plot, -100, 100);
        Plot far = Plot.withCapacities(0, 20, 0, 0, 40, 20, 0, 1681);
        balance(far, 40, 20, 20, 2 * 41);
        weights(far, -800, 800);
    }

    private static void leavesAlone() {
        Plot one = Plot.withCapacities(3, 4, 5, 6);
        balance(one, 999, 20, 0, 1675);
        weights(one, 5);
        Plot alike = Plot.withCapacities(10, 20, 0, 41, 30, 20, 0, 0);
        balance(alike, 20, 20, 0, 1640);
        weights(alike, 0, 0);
    }

    private static void refuses() {
        Plot plot = Plot.withCapacities(10, 20, 0, 820, 30, 20, 0, 861);
        Plot empty = new Plot();
        for (int wrong : new int[] {0, -1, 1000, LEAST, MOST}) {
            check.fails("balance by " + wrong, plot, WRONG, () -> plot.balance(wrong, 1));
            check.fails("would by " + wrong, plot, WRONG, () -> plot.would(wrong, 1));
            check.fails("balance by " + wrong + " without sites", empty, WRONG, () -> empty.balance(wrong, 1));
            check.fails("would by " + wrong + " without sites", empty, WRONG, () -> empty.would(wrong, 1));
        }
        for (int wrong : new int[] {0, -1, 21, LEAST, MOST}) {
            check.fails("balance times " + wrong, plot, WRONG, () -> plot.balance(1, wrong));
            check.fails("would times " + wrong, plot, WRONG, () -> plot.would(1, wrong));
            check.fails("balance times " + wrong + " without sites", empty, WRONG, () -> empty.balance(1, wrong));
            check.fails("would times " + wrong + " without sites", empty, WRONG, () -> empty.would(1, wrong));
        }
        check.fails("balance without sites", empty, NO_SITES, () -> empty.balance(1, 1));
        check.fails("would without sites", empty, NO_SITES, () -> empty.would(999, 20));
        check.due("balance at the ends of its ranges", plot.balance(999, 20), 0);
    }
}
