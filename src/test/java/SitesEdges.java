/** Edges of promises 1 to 5, 7 to 9 and 21, that no single argument shows. */
final class SitesEdges {
    private static final Class<IndexOutOfBoundsException> NO_SITE = IndexOutOfBoundsException.class;
    private static final Class<IllegalArgumentException> WRONG = IllegalArgumentException.class;
    private static final Class<IllegalStateException> REFUSED = IllegalStateException.class;
    private static final int LEAST = Integer.MIN_VALUE, MOST = Integer.MAX_VALUE;

    private final Check check;

    SitesEdges(Check check) {
        this.check = check;
    }

    void run() {
        newObject();
        objectsAreApart();
        lastCallOf512();
        numbersOfSites();
        asManyAsThereMayBe();
        movedSites();
        toldWeights();
        toldCapacities();
        countedSites();
        toldOfSites();
        powers();
        signs();
    }

    /** Twelve sites, each at a place and with a weight and a capacity of its own. */
    private static Plot full() {
        Plot plot = new Plot();
        for (int site = 0; site < 12; site++) {
            plot.site(3 * site, 40 - 2 * site, 10 * site - 50);
            plot.capacity(site, 100 + site);
        }
        return plot;
    }

    private void newObject() {
        check.promise(1, "a box without sites");
        Plot plot = new Plot();
        check.due("sites", plot.sites(), 0);
        check.due("disorder", plot.disorder(), 0);
        for (int x = 0; x <= 40; x += 20) {
            for (int y = 0; y <= 40; y += 20) {
                check.due("owner", plot.owner(x, y), PowerPlot.NONE);
            }
        }
        check.fails("balance", plot, REFUSED, () -> plot.balance(1, 1));
        check.fails("would", plot, REFUSED, () -> plot.would(1, 1));
        for (int none : new int[] {LEAST, -3, -2, -1, 0, 1, 11, 12, MOST}) {
            check.fails("move", plot, NO_SITE, () -> plot.move(none, 0, 0));
            check.fails("weight", plot, NO_SITE, () -> plot.weight(none, 0));
            check.fails("capacity", plot, NO_SITE, () -> plot.capacity(none, 0));
            check.fails("ofSite", plot, NO_SITE, () -> plot.ofSite(none, 0));
            check.fails("power", plot, NO_SITE, () -> plot.power(none, 0, 0));
            check.fails("share", plot, NO_SITE, () -> plot.share(none));
            check.fails("shareAnew", plot, NO_SITE, () -> plot.shareAnew(none));
            check.fails("inRow", plot, NO_SITE, () -> plot.inRow(none, 0, true));
            check.fails("isHidden", plot, NO_SITE, () -> plot.isHidden(none));
            check.fails("hasBorder", plot, NO_SITE, () -> plot.hasBorder(none, none));
            check.fails("why", plot, NO_SITE, () -> plot.why(none, none));
            check.fails("ofEnd", plot, NO_SITE, () -> plot.ofEnd(none, none, 0, 0));
            check.fails("beside", plot, NO_SITE, () -> plot.beside(none));
            check.fails("sign", plot, NO_SITE, () -> plot.sign(none, 0));
        }
    }

    private void objectsAreApart() {
        check.promise(1, "each object has a box of its own");
        PowerPlot first = new PowerPlot();
        PowerPlot second = new PowerPlot();
        first.site(1, 2, 3);
        check.due("sites of the second", second.sites(), 0);
        second.site(40, 40, -9);
        second.site(0, 0, 9);
        check.due("sites of the first", first.sites(), 1);
        second.move(0, 7, 7);
        second.weight(0, 70);
        second.capacity(0, 700);
        check.due("x of the first", first.ofSite(0, 0), 1);
        check.due("weight of the first", first.ofSite(0, 2), 3);
        check.due("capacity of the first", first.ofSite(0, 3), 0);
        check.due("share of the first", first.share(0), 1681);
    }

    /** Nothing is promised behind the 512th call: here the last calls are just those up to it. */
    private void lastCallOf512() {
        check.promise(1, "an object is used for at most 512 calls");
        PowerPlot changed = new PowerPlot();
        changed.site(0, 0, 0);
        for (int call = 2; call <= 511; call++) {
            check.due("weight, call " + call, changed.weight(0, call), call == 2 ? 0 : call - 1);
        }
        check.due("the weight asked as call 512", changed.ofSite(0, 2), 511);
        PowerPlot asked = new PowerPlot();
        for (int call = 1; call <= 512; call++) {
            check.due("owner, call " + call, asked.owner(call % 41, 0), PowerPlot.NONE);
        }
        PowerPlot late = new PowerPlot();
        for (int call = 1; call <= 500; call++) {
            late.sites();
        }
        for (int site = 0; site < 12; site++) {
            check.due("site, call " + (501 + site), late.site(site, site, site), site);
        }
    }

    private void numbersOfSites() {
        check.promise(2, "sites are numbered from 0");
        Plot plot = new Plot();
        check.due("the first number", plot.site(0, 0, -999), 0);
        check.promise(2, "several may be at one place");
        check.due("the next number, at the same place", plot.site(0, 0, -999), 1);
        check.due("the next number, at the same place", plot.site(0, 0, 999), 2);
        check.promise(2, "a call that throws an exception changes nothing, and so takes no number");
        check.fails("site", plot, WRONG, () -> plot.site(41, 0, 0));
        check.fails("site", plot, WRONG, () -> plot.site(0, -1, 0));
        check.fails("site", plot, WRONG, () -> plot.site(0, 0, 1000));
        check.due("the next number", plot.site(40, 40, 999), 3);
        check.promise(2, "the capacity is 0 at first");
        check.due("all", Snapshot.of(plot), "4 / 0 0 -999 0 / 0 0 -999 0 / 0 0 999 0 / 40 40 999 0");
    }

    private void asManyAsThereMayBe() {
        check.promise(2, "at most 12");
        Plot plot = new Plot();
        for (int site = 0; site < 12; site++) {
            check.due("its number", plot.site(3 * site, 40 - 2 * site, 10 * site - 50), site);
            check.due("sites", plot.sites(), site + 1);
        }
        check.fails("the 13th", plot, REFUSED, () -> plot.site(0, 0, 0));
        check.fails("the 13th, at a place that is taken", plot, REFUSED, () -> plot.site(3, 38, -40));
        check.fails("the 13th, at the ends of the ranges", plot, REFUSED, () -> plot.site(40, 40, 999));
        check.promise(2, "of several exceptions the one that is named first");
        check.fails("the 13th, with x out of range", plot, WRONG, () -> plot.site(-1, 0, 0));
        check.fails("the 13th, with y out of range", plot, WRONG, () -> plot.site(0, 41, 0));
        check.fails("the 13th, with its weight out of range", plot, WRONG, () -> plot.site(0, 0, -1000));
        check.promise(2, "the last one is as it was told");
        check.due("the 12th", Snapshot.text(plot, 11), "33,18+60");
    }

    private void movedSites() {
        check.promise(3, "moves a site, and nothing else of it or of others");
        Plot plot = full();
        plot.move(0, 40, 0);
        plot.move(11, 0, 40);
        for (int site = 0; site < 12; site++) {
            check.due("x of " + site, plot.ofSite(site, 0), site == 0 ? 40 : site == 11 ? 0 : 3 * site);
            check.due("y of " + site, plot.ofSite(site, 1), site == 0 ? 0 : site == 11 ? 40 : 40 - 2 * site);
            check.due("weight of " + site, plot.ofSite(site, 2), 10 * site - 50);
            check.due("capacity of " + site, plot.ofSite(site, 3), 100 + site);
        }
        check.fails("move of the 13th", plot, NO_SITE, () -> plot.move(12, 0, 0));
        check.promise(3, "several may be at one place");
        plot.move(5, 6, 36);
        check.due("x", plot.ofSite(5, 0), plot.ofSite(2, 0));
        check.due("why", plot.why(5, 2), PowerPlot.SAME);
        check.promise(3, "to where it is");
        String before = Snapshot.all(plot);
        plot.move(5, 6, 36);
        check.due("what stands", Snapshot.all(plot), before);
        check.promise(3, "one site alone");
        Plot one = Plot.of(3, 4, 5);
        one.move(0, 40, 40);
        check.due("what stands", Snapshot.of(one), "1 / 40 40 5 0");
        check.fails("move of the second", one, NO_SITE, () -> one.move(1, 0, 0));
    }

    private void toldWeights() {
        check.promise(4, "returns what it was");
        Plot plot = full();
        check.due("the first", plot.weight(0, -999), -50);
        check.due("the first again", plot.weight(0, 999), -999);
        check.due("the last", plot.weight(11, 999), 60);
        check.due("the last, the same", plot.weight(11, 999), 999);
        check.due("the last again", plot.weight(11, -999), 999);
        check.promise(4, "nothing else of it or of others");
        for (int site = 0; site < 12; site++) {
            check.due("weight of " + site, plot.ofSite(site, 2), site == 0 ? 999 : site == 11 ? -999 : 10 * site - 50);
            check.due("x of " + site, plot.ofSite(site, 0), 3 * site);
            check.due("capacity of " + site, plot.ofSite(site, 3), 100 + site);
        }
        check.promise(4, "what it was, is not what was refused");
        check.fails("weight", plot, WRONG, () -> plot.weight(3, 1000));
        check.due("the weight behind it", plot.weight(3, 0), -20);
        check.promise(4, "what it was, may be what balancing made of it");
        Plot balanced = Plot.withCapacities(10, 20, 0, 820, 30, 20, 0, 861);
        balanced.balance(20, 1);
        check.due("the greater", balanced.weight(0, 5), -20);
        check.due("the lesser", balanced.weight(1, 5), 20);
    }

    private void toldCapacities() {
        check.promise(5, "0 at first");
        Plot plot = Plot.of(10, 20, 0, 30, 20, 0);
        check.due("the first", plot.capacity(0, 1681), 0);
        check.due("the last", plot.capacity(1, 0), 0);
        check.promise(5, "returns what it was");
        check.due("the first again", plot.capacity(0, 1), 1681);
        check.due("the first again", plot.capacity(0, 0), 1);
        check.due("the last again", plot.capacity(1, 1681), 0);
        check.due("the last, the same", plot.capacity(1, 1681), 1681);
        check.promise(5, "what it was, is not what was refused");
        check.fails("capacity", plot, WRONG, () -> plot.capacity(1, 1682));
        check.fails("capacity", plot, WRONG, () -> plot.capacity(1, -1));
        check.due("the capacity behind it", plot.capacity(1, 7), 1681);
        check.promise(5, "nothing else of it or of others; the capacities together may be more than there are points");
        Plot twelve = full();
        for (int site = 0; site < 12; site++) {
            check.due("capacity of " + site, twelve.capacity(site, 1681), 100 + site);
            check.due("weight of " + site, twelve.ofSite(site, 2), 10 * site - 50);
        }
        check.due("disorder", twelve.disorder(), 12 * 1681 - 1681);
    }

    private void countedSites() {
        check.promise(7, "how many sites there are, none and as many as there may be");
        Plot plot = new Plot();
        check.due("sites", plot.sites(), 0);
        plot.site(0, 0, 0);
        check.due("sites", plot.sites(), 1);
        plot.move(0, 1, 1);
        plot.weight(0, 1);
        plot.capacity(0, 1);
        plot.balance(1, 1);
        check.due("sites, as before", plot.sites(), 1);
        check.fails("site", plot, WRONG, () -> plot.site(41, 41, 0));
        check.due("sites, as before", plot.sites(), 1);
        Plot full = full();
        check.due("sites", full.sites(), 12);
        check.fails("site", full, REFUSED, () -> full.site(0, 0, 0));
        check.due("sites, as before", full.sites(), 12);
    }

    private void toldOfSites() {
        check.promise(8, "the least and the greatest height");
        Plot plot = Plot.of(0, 0, 999, 40, 40, -999, 40, 0, 0, 0, 40, 0, 0, 0, 0);
        int[] heights = {-999, 3200 + 999, 1600, 1600, 0};
        for (int site = 0; site < heights.length; site++) {
            check.due("height of " + site, plot.ofSite(site, 4), heights[site]);
        }
        check.promise(8, "the height is by x and y and the weight as they are now");
        plot.move(0, 40, 0);
        check.due("height", plot.ofSite(0, 4), 601);
        plot.weight(0, -999);
        check.due("height", plot.ofSite(0, 4), 2599);
        check.promise(8, "the excess is the share less the capacity, below 0 or not");
        Plot one = Plot.of(7, 7, 0);
        check.due("the greatest excess", one.ofSite(0, 5), 1681);
        one.capacity(0, 1681);
        check.due("no excess", one.ofSite(0, 5), 0);
        one.site(7, 7, 1);
        check.due("the least excess", one.ofSite(0, 5), -1681);
        check.due("excess of the other", one.ofSite(1, 5), 1681);
        check.promise(8, "of several exceptions the one that is named first");
        check.fails("ofSite", one, NO_SITE, () -> one.ofSite(2, 6));
        check.fails("ofSite", one, NO_SITE, () -> one.ofSite(-1, -1));
        check.fails("ofSite", one, WRONG, () -> one.ofSite(1, 6));
        check.fails("ofSite", one, WRONG, () -> one.ofSite(1, -1));
    }

    private void powers() {
        check.promise(9, "it may be below 0; the least and the greatest");
        Plot plot = Plot.of(0, 0, -999, 40, 40, 999, 20, 20, 0);
        check.due("the greatest", plot.power(0, 40, 40), 3200 + 999);
        check.due("the least", plot.power(1, 40, 40), -999);
        check.due("0", plot.power(2, 20, 20), 0);
        check.due("one to the left", plot.power(2, 19, 20), 1);
        check.due("one above", plot.power(2, 20, 21), 1);
        check.due("at another corner", plot.power(0, 40, 0), 1600 + 999);
        check.due("at another corner", plot.power(1, 0, 40), 1600 - 999);
        check.promise(9, "of several exceptions the one that is named first");
        check.fails("power", plot, NO_SITE, () -> plot.power(3, 41, -1));
        check.fails("power", plot, WRONG, () -> plot.power(2, 41, 0));
        check.fails("power", plot, WRONG, () -> plot.power(2, 0, -1));
    }

    private void signs() {
        check.promise(21, "the shortest text and the longest, a plus if the weight is 0, a blank behind the end");
        int[] sites = {0, 0, 0, 40, 40, -999, 40, 40, 999, 0, 40, -1, 9, 10, 1, 10, 9, 10, 1, 0, -9, 1, 0, 100};
        String[] texts = {"0,0+0", "40,40-999", "40,40+999", "0,40-1", "9,10+1", "10,9+10", "1,0-9", "1,0+100"};
        Plot plot = Plot.of(sites);
        for (int site = 0; site < texts.length; site++) {
            for (int place = 0; place < 12; place++) {
                char due = place < texts[site].length() ? texts[site].charAt(place) : ' ';
                check.due("sign " + place + " of " + site, plot.sign(site, place), due);
            }
            check.due("sign far behind the end of " + site, plot.sign(site, MOST), ' ');
        }
        check.promise(21, "there is no such site, or place is below 0");
        check.fails("sign", plot, NO_SITE, () -> plot.sign(7, -1));
        check.fails("sign", plot, NO_SITE, () -> plot.sign(7, LEAST));
        check.fails("sign", plot, NO_SITE, () -> plot.sign(8, 0));
        check.fails("sign", plot, NO_SITE, () -> plot.sign(8, -1));
        check.fails("sign, behind the end", plot, NO_SITE, () -> plot.sign(8, MOST));
        check.promise(21, "the text is of what stands now");
        plot.move(0, 12, 3);
        plot.weight(0, -45);
        check.due("the text", Snapshot.text(plot, 0), "12,3-45");
    }
}
