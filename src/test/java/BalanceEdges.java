import java.util.Arrays;

/** Edges of promises 6, 19 and 20, that no single argument shows. */
final class BalanceEdges {
    private static final Class<IllegalArgumentException> WRONG = IllegalArgumentException.class;
    private static final Class<IllegalStateException> NO_SITES = IllegalStateException.class;

    private final Check check;
    private String sentence;

    BalanceEdges(Check check) {
        this.check = check;
    }

    void run() {
        disorders();
        withoutSites();
        oneSiteAlone();
        allTheSameExcess();
        greatestAndLeast();
        sharesAsTheyWereAhead();
        endsOfWeights();
        takenBack();
        manyTimes();
        asManySitesAsThereMayBe();
    }

    private void says(String sentence) {
        this.sentence = sentence;
    }

    /** What balancing would make, which changes nothing; what it does make; and the weights behind it. */
    private void balance(Plot plot, int by, int times, int done, int disorder, int... weights) {
        String what = "by " + by + ", " + times + " times, of " + Snapshot.of(plot);
        check.promise(20, sentence);
        check.asks("would " + what, plot, () -> check.due("would " + what, plot.would(by, times), disorder));
        check.promise(6, sentence);
        check.due("balance " + what, plot.balance(by, times), done);
        for (int site = 0; site < weights.length; site++) {
            check.due("weight of " + site + " behind balance " + what, plot.ofSite(site, 2), weights[site]);
        }
        check.promise(19, sentence);
        check.due("disorder behind balance " + what, plot.disorder(), disorder);
    }

    private void disorders() {
        check.promise(19, "0 without sites");
        check.due("disorder", new Plot().disorder(), 0);
        check.promise(19, "the sum of all excesses without their signs");
        Plot plot = Plot.of(10, 20, 0);
        check.due("disorder of one above 0", plot.disorder(), 1681);
        plot.capacity(0, 1681);
        check.due("disorder of one at 0", plot.disorder(), 0);
        plot.capacity(0, 1680);
        check.due("disorder of one by 1", plot.disorder(), 1);
        plot.site(30, 20, 0);
        check.due("disorder of one below 0 and one above", plot.disorder(), 819 + 820);
        plot.capacity(1, 1681);
        check.due("disorder of both below 0", plot.disorder(), 819 + 861);
        Plot most = new Plot();
        for (int site = 0; site < 12; site++) {
            most.capacity(most.site(20, 20, 0), 1681);
        }
        check.due("the greatest disorder", most.disorder(), 11 * 1681);
    }

    private void withoutSites() {
        Plot empty = new Plot();
        check.promise(6, "if there is no site; of several exceptions the one that is named first");
        check.fails("balance", empty, NO_SITES, () -> empty.balance(1, 1));
        check.fails("balance", empty, NO_SITES, () -> empty.balance(999, 20));
        check.fails("balance by 0", empty, WRONG, () -> empty.balance(0, 1));
        check.fails("balance by 1000", empty, WRONG, () -> empty.balance(1000, 1));
        check.fails("balance no times", empty, WRONG, () -> empty.balance(1, 0));
        check.fails("balance 21 times", empty, WRONG, () -> empty.balance(1, 21));
        check.promise(20, "if there is no site; of several exceptions the one that is named first");
        check.fails("would", empty, NO_SITES, () -> empty.would(1, 1));
        check.fails("would", empty, NO_SITES, () -> empty.would(999, 20));
        check.fails("would by 0", empty, WRONG, () -> empty.would(0, 1));
        check.fails("would by 1000", empty, WRONG, () -> empty.would(1000, 1));
        check.fails("would no times", empty, WRONG, () -> empty.would(1, 0));
        check.fails("would 21 times", empty, WRONG, () -> empty.would(1, 21));
    }

    private void oneSiteAlone() {
        says("with one site alone nothing changes");
        balance(Plot.withCapacities(3, 4, 5, 0), 1, 1, 0, 1681, 5);
        balance(Plot.withCapacities(3, 4, 5, 1681), 1, 20, 0, 0, 5);
        balance(Plot.withCapacities(3, 4, 999, 7), 999, 20, 0, 1674, 999);
        balance(Plot.withCapacities(3, 4, -999, 7), 999, 1, 0, 1674, -999);
    }

    private void allTheSameExcess() {
        says("if all have the same excess, nothing changes");
        balance(Plot.withCapacities(10, 20, 0, 41, 30, 20, 0, 0), 1, 20, 0, 1640, 0, 0);
        balance(Plot.withCapacities(10, 20, 0, 861, 30, 20, 0, 820), 999, 20, 0, 0, 0, 0);
        balance(Plot.withCapacities(10, 20, 0, 961, 30, 20, 0, 920), 40, 1, 0, 200, 0, 0);
        // Shares 21 * 41, 10 * 41 and 10 * 41.
        balance(Plot.withCapacities(15, 20, 0, 461, 25, 20, 0, 10, 35, 20, 0, 10), 50, 2, 0, 1200, 0, 0, 0);
        says("if all have the same excess behind one time, the next one changes nothing and ends it");
        balance(Plot.withCapacities(10, 20, 0, 820, 30, 20, 0, 861), 20, 20, 1, 0, -20, 20);
    }

    private void greatestAndLeast() {
        says("the one with the greatest excess has a weight less, the one with the least has one more");
        balance(Plot.withCapacities(10, 20, 0, 820, 30, 20, 0, 861), 20, 1, 1, 0, -20, 20);
        balance(Plot.withCapacities(30, 20, 0, 820, 10, 20, 0, 861), 20, 1, 1, 0, -20, 20);
        balance(Plot.withCapacities(10, 20, 0, 902, 30, 20, 0, 779), 20, 1, 1, 0, 20, -20);
        says("the greatest excess may be below 0, the least above 0");
        balance(Plot.withCapacities(10, 20, 0, 1681, 30, 20, 0, 861), 20, 1, 0, 861, 0, 0);
        balance(Plot.withCapacities(10, 20, 0, 820, 30, 20, 0, 0), 20, 1, 0, 861, 0, 0);
        says("of several with the greatest excess the lowest");
        // Excesses 41, 41 and -82.
        balance(Plot.withCapacities(5, 20, 0, 492, 20, 20, 0, 574, 35, 20, 0, 615), 31, 1, 1, 82, -31, 0, 31);
        says("of several with the least excess the lowest");
        // Excesses 82, -41 and -41.
        balance(Plot.withCapacities(5, 20, 0, 451, 20, 20, 0, 656, 35, 20, 0, 574), 10, 1, 1, 82, -10, 10, 0);
    }

    private void sharesAsTheyWereAhead() {
        says("both by shares as they were ahead of it");
        // Behind the first of both changes, another site would have the greatest or the least excess, whichever comes first.
        Plot three = Plot.withCapacities(15, 20, 0, 943, 25, 20, 0, 82, 35, 20, 0, 697);
        balance(three, 240, 1, 1, 369, 0, -240, 240);
        Plot lowered = Plot.withCapacities(35, 20, 0, 779, 25, 20, 0, 615, 15, 20, 0, 123, 5, 20, 0, 779);
        balance(lowered, 40, 1, 1, 697, 0, 0, -40, 40);
        Plot raised = Plot.withCapacities(15, 20, 0, 41, 5, 20, 0, 287, 35, 20, 0, 41, 25, 20, 0, 943);
        balance(raised, 160, 1, 1, 451, -160, 0, 0, 160);
    }

    private void endsOfWeights() {
        says("-999 at least");
        balance(Plot.withCapacities(10, 20, -990, 700, 30, 20, -999, 981), 100, 1, 1, 76, -999, -899);
        balance(Plot.withCapacities(10, 20, -899, 700, 30, 20, -908, 981), 100, 1, 1, 88, -999, -808);
        says("999 at most");
        balance(Plot.withCapacities(10, 20, 985, 700, 30, 20, 990, 981), 100, 1, 1, 76, 885, 999);
        says("with one at -999 and the other one at 999 nothing changes");
        balance(Plot.withCapacities(0, 0, -999, 0, 40, 40, 999, 1681), 100, 20, 0, 272, -999, 999);
        balance(Plot.withCapacities(0, 0, -999, 0, 40, 40, 999, 1681), 999, 1, 0, 272, -999, 999);
    }

    private void takenBack() {
        says("a time by which it is not less, but more, is taken back");
        balance(Plot.withCapacities(10, 20, 0, 820, 30, 20, 0, 861), 400, 20, 0, 82, 0, 0);
        says("a time by which it is not less, but the same, is taken back");
        balance(Plot.withCapacities(10, 20, 0, 0, 30, 20, 0, 0), 20, 20, 0, 1681, 0, 0);
        says("what is taken back, is what it was ahead of the ends of weights");
        balance(Plot.withCapacities(10, 20, -990, 820, 30, 20, -999, 861), 100, 20, 0, 82, -990, -999);
        balance(Plot.withCapacities(10, 20, 999, 820, 30, 20, 990, 861), 100, 20, 0, 82, 999, 990);
        says("the time that is taken back alone, not those ahead of it; less than ahead of this time, not of the first");
        balance(Plot.withCapacities(10, 20, -990, 700, 30, 20, -999, 981), 100, 20, 1, 76, -999, -899);
    }

    private void manyTimes() {
        // The first one owns 21 columns, and each time one less, as the sum of both weights is even.
        says("so many times, as long as the disorder is less behind it than ahead of it");
        for (int times = 1; times <= 20; times++) {
            int done = Math.min(times, 5);
            Plot plot = Plot.withCapacities(10, 20, 0, 16 * 41, 30, 20, 0, 25 * 41);
            balance(plot, 20, times, done, 2 * 41 * (5 - done), -20 * done, 20 * done);
        }
        says("at most 20 times, and once more by another call");
        Plot far = Plot.withCapacities(0, 20, 0, 0, 40, 20, 0, 1681);
        balance(far, 40, 19, 19, 2 * 41 * 2, -760, 760);
        Plot again = Plot.withCapacities(0, 20, 0, 0, 40, 20, 0, 1681);
        balance(again, 40, 20, 20, 2 * 41, -800, 800);
        balance(again, 40, 20, 1, 0, -840, 840);
        balance(again, 40, 20, 0, 0, -840, 840);
        says("by the least and by the greatest number");
        balance(Plot.withCapacities(0, 20, 0, 820, 40, 20, 0, 861), 1, 1, 1, 0, -1, 1);
        balance(Plot.withCapacities(0, 0, 999, 0, 40, 40, -999, 1681), 999, 1, 1, 1722, 0, 0);
    }

    private void asManySitesAsThereMayBe() {
        says("with as many sites as there may be, the first and the last of them");
        for (int turn = 0; turn < 2; turn++) {
            Plot plot = new Plot();
            for (int site = 0; site < 12; site++) {
                plot.site(20, 20, -999);
            }
            int great = turn == 0 ? 0 : 11, small = 11 - great;
            plot.move(great, 10, 20);
            plot.move(small, 30, 20);
            plot.weight(great, 0);
            plot.weight(small, 0);
            plot.capacity(great, turn == 0 ? 820 : 779);
            plot.capacity(small, turn == 0 ? 861 : 902);
            int[] weights = new int[12];
            Arrays.fill(weights, -999);
            weights[great] = -20;
            weights[small] = 20;
            balance(plot, 20, 20, 1, 0, weights);
        }
    }
}
