/** Promises 15 to 18: borders, their causes and their ends. */
public final class BorderTest {
    private static final Class<IndexOutOfBoundsException> NO_SITE = IndexOutOfBoundsException.class;
    private static final Class<IllegalArgumentException> WRONG = IllegalArgumentException.class;
    private static final Class<IllegalStateException> NO_BORDER = IllegalStateException.class;
    private static final int LEAST = Integer.MIN_VALUE, MOST = Integer.MAX_VALUE;
    private static final Check check = new Check("BorderTest");

    public static void main(String[] args) {
        endsInTheBox();
        cutByTheBox();
        cutByOthers();
        causesInTheirOrder();
        alikeCutsNothing();
        hiddenCuts();
        samePlaces();
        countsBeside();
        refuses();
        check.end();
    }

    private static void border(Plot plot, int site, int other, String due) {
        check.asks("a border", plot, () -> {
            check.due("border " + site + " " + other, Snapshot.border(plot, site, other), due);
            check.due("border " + other + " " + site, Snapshot.border(plot, other, site), due);
        });
        check.due("why", plot.why(site, other), PowerPlot.NONE);
        check.due("hasBorder", plot.hasBorder(site, other), true);
    }

    private static void cause(Plot plot, int site, int other, int due) {
        check.asks("why", plot, () -> check.due("why " + site + " " + other, plot.why(site, other), due));
        check.due("why " + other + " " + site, plot.why(other, site), due);
        check.due("hasBorder", plot.hasBorder(site, other), false);
        check.due("hasBorder", plot.hasBorder(other, site), false);
        for (int end = 0; end < 2; end++) {
            for (int what = 0; what < 4; what++) {
                int askedEnd = end, askedWhat = what;
                check.fails("ofEnd without a border", plot, NO_BORDER, () -> plot.ofEnd(site, other, askedEnd, askedWhat));
            }
        }
    }

    private static void endsInTheBox() {
        border(Plot.of(10, 20, 0, 30, 20, 0), 0, 1, "20/1,0/1 20/1,40/1");
        border(Plot.of(10, 20, 0, 30, 20, 5), 0, 1, "159/8,0/1 159/8,40/1");
        border(Plot.of(20, 10, 0, 20, 30, 0), 0, 1, "0/1,20/1 40/1,20/1");
        border(Plot.of(20, 10, 5, 20, 30, 0), 0, 1, "0/1,161/8 40/1,161/8");
        border(Plot.of(0, 0, 0, 40, 40, 0), 0, 1, "0/1,40/1 40/1,0/1");
        border(Plot.of(0, 40, 0, 40, 0, 0), 0, 1, "0/1,0/1 40/1,40/1");
        // 3 x + y = 5.
        border(Plot.of(0, 0, 0, 3, 1, 0), 0, 1, "0/1,5/1 5/3,0/1");
        // 6 y = 14 x + 47.
        border(Plot.of(1, 9, 0, 8, 6, 65), 0, 1, "0/1,47/6 193/14,40/1");
    }

    private static void cutByTheBox() {
        cause(Plot.of(0, 0, 0, 1, 0, -999), 0, 1, PowerPlot.BOX);
        cause(Plot.of(0, 0, 0, 0, 1, -999), 0, 1, PowerPlot.BOX);
        cause(Plot.of(40, 40, 0, 40, 39, -999), 0, 1, PowerPlot.BOX);
        // x + y = 0: a corner alone.
        cause(Plot.of(0, 0, 0, 1, 1, 2), 0, 1, PowerPlot.BOX);
        border(Plot.of(0, 0, 0, 1, 1, 1), 0, 1, "0/1,1/2 1/2,0/1");
        cause(Plot.of(40, 40, 0, 39, 39, 2), 0, 1, PowerPlot.BOX);
        border(Plot.of(40, 40, 0, 39, 39, 1), 0, 1, "79/2,40/1 40/1,79/2");
        // The sides of the box belong to it.
        border(Plot.of(0, 0, 0, 1, 0, 1), 0, 1, "0/1,0/1 0/1,40/1");
        border(Plot.of(39, 20, 0, 40, 20, -1), 0, 1, "40/1,0/1 40/1,40/1");
        border(Plot.of(20, 0, 0, 20, 1, 1), 0, 1, "0/1,0/1 40/1,0/1");
        border(Plot.of(20, 39, 0, 20, 40, -1), 0, 1, "0/1,40/1 40/1,40/1");
        cause(Plot.of(0, 0, 0, 1, 0, 2), 0, 1, PowerPlot.BOX);
        cause(Plot.of(39, 20, 0, 40, 20, -2), 0, 1, PowerPlot.BOX);
        cause(Plot.of(20, 39, 0, 20, 40, -2), 0, 1, PowerPlot.BOX);
    }

    private static void cutByOthers() {
        Plot plot = Plot.of(0, 20, 0, 40, 20, 0, 20, 0, 0);
        border(plot, 0, 1, "20/1,20/1 20/1,40/1");
        border(plot, 0, 2, "0/1,0/1 20/1,20/1");
        border(plot, 1, 2, "20/1,20/1 40/1,0/1");
        // The third one takes the first two's line up to y = 20 + its weight / 40.
        plot.weight(2, 799);
        border(plot, 0, 1, "20/1,1599/40 20/1,40/1");
        plot.weight(2, 800);
        cause(plot, 0, 1, 2);
        plot.weight(2, -800);
        border(plot, 0, 1, "20/1,0/1 20/1,40/1");
        // x = y + 20 is in the box, but the second one leaves of it no more than the point at 20, 0.
        cause(plot, 0, 2, 1);
    }

    private static void causesInTheirOrder() {
        // Both others leave one point together, and neither alone.
        Plot plot = Plot.of(0, 20, 0, 40, 20, 0, 20, 0, 0, 20, 40, 0);
        cause(plot, 0, 1, 3);
        cause(plot, 2, 3, 1);
        plot.weight(2, -1);
        border(plot, 0, 1, "20/1,799/40 20/1,20/1");
        plot.weight(2, 800);
        cause(plot, 0, 1, 2);
        plot.weight(3, 999);
        cause(plot, 0, 1, 2);
        plot.weight(2, 0);
        cause(plot, 0, 1, 3);
        // The box comes first, whatever another one cuts.
        Plot far = Plot.of(0, 0, 0, 1, 0, -999, 20, 20, 999);
        cause(far, 0, 1, PowerPlot.BOX);
        // Lower numbers come first, whether they are below both sites, between them or above both.
        Plot below = Plot.of(20, 20, 100, 20, 20, 100, 0, 20, 0, 40, 20, 0, 20, 20, 900);
        cause(below, 2, 3, 0);
        below.weight(0, -999);
        cause(below, 2, 3, 1);
        below.weight(1, -999);
        cause(below, 2, 3, 4);
    }

    private static void alikeCutsNothing() {
        Plot plot = Plot.of(0, 20, 0, 40, 20, 0, 20, 20, -400);
        border(plot, 0, 1, "20/1,0/1 20/1,40/1");
        border(plot, 0, 2, "20/1,0/1 20/1,40/1");
        border(plot, 1, 2, "20/1,0/1 20/1,40/1");
        plot.weight(2, -401);
        border(plot, 0, 1, "20/1,0/1 20/1,40/1");
        cause(plot, 0, 2, 1);
        plot.weight(2, -399);
        cause(plot, 0, 1, 2);
        // One at the place of a site, as light, cuts nothing; a heavier one cuts all.
        plot.move(2, 0, 20);
        plot.weight(2, 0);
        border(plot, 0, 1, "20/1,0/1 20/1,40/1");
        border(plot, 2, 1, "20/1,0/1 20/1,40/1");
        plot.weight(2, 1);
        cause(plot, 0, 1, 2);
        plot.weight(2, -1);
        border(plot, 0, 1, "20/1,0/1 20/1,40/1");
        cause(plot, 2, 1, 0);
    }

    private static void hiddenCuts() {
        Plot plot = Plot.of(0, 20, 0, 40, 20, 0, 20, 20, 0, 20, 20, 500);
        check.due("the third is hidden", plot.isHidden(2), true);
        cause(plot, 0, 1, 2);
    }

    private static void samePlaces() {
        Plot plot = Plot.of(5, 6, 0, 5, 6, 0, 5, 6, 9, 30, 30, 0, 5, 7, 0);
        cause(plot, 0, 1, PowerPlot.SAME);
        cause(plot, 0, 2, PowerPlot.SAME);
        cause(plot, 0, 0, PowerPlot.SAME);
        cause(plot, 3, 3, PowerPlot.SAME);
        cause(plot, 0, 3, 2);
        // Alike in one coordinate alone is another place.
        Plot near = Plot.of(5, 6, 0, 5, 7, 0, 6, 6, 0);
        border(near, 0, 1, "0/1,13/2 11/2,13/2");
        border(near, 0, 2, "11/2,0/1 11/2,13/2");
    }

    private static void countsBeside() {
        Plot plot = Plot.of(20, 20, 0);
        check.due("beside, alone", plot.beside(0), 0);
        int[] more = {0, 0, 40, 0, 0, 40, 40, 40};
        for (int i = 0; i < more.length; i += 2) {
            plot.site(more[i], more[i + 1], 0);
        }
        check.asks("beside", plot, () -> check.due("beside of the middle", plot.beside(0), 4));
        check.due("beside of a corner", plot.beside(1), 1);
        plot.weight(0, -1);
        check.due("beside of a corner", plot.beside(1), 3);
        plot.weight(0, -999);
        check.due("beside of one that is hidden", plot.beside(0), 0);
        check.due("beside of a corner", plot.beside(4), 2);
        plot.site(20, 20, -999);
        plot.weight(0, 0);
        plot.weight(5, 0);
        check.due("beside of one alike", plot.beside(0), 4);
        check.due("beside of the other one alike", plot.beside(5), 4);
    }

    private static void refuses() {
        Plot plot = Plot.of(10, 20, 0, 30, 20, 0);
        for (int none : new int[] {-1, -2, -3, 2, 11, 12, LEAST, MOST}) {
            check.fails("hasBorder of " + none, plot, NO_SITE, () -> plot.hasBorder(none, 0));
            check.fails("hasBorder with " + none, plot, NO_SITE, () -> plot.hasBorder(0, none));
            check.fails("hasBorder of none with itself", plot, NO_SITE, () -> plot.hasBorder(none, none));
            check.fails("why of " + none, plot, NO_SITE, () -> plot.why(none, 0));
            check.fails("why with " + none, plot, NO_SITE, () -> plot.why(0, none));
            check.fails("why of none with itself", plot, NO_SITE, () -> plot.why(none, none));
            check.fails("beside of " + none, plot, NO_SITE, () -> plot.beside(none));
            check.fails("ofEnd of " + none, plot, NO_SITE, () -> plot.ofEnd(none, 0, 0, 0));
            check.fails("ofEnd with " + none, plot, NO_SITE, () -> plot.ofEnd(0, none, 0, 0));
            check.fails("ofEnd with all wrong", plot, NO_SITE, () -> plot.ofEnd(0, none, 2, 4));
        }
        for (int wrong : new int[] {-1, 2, LEAST, MOST}) {
            check.fails("ofEnd at end " + wrong, plot, WRONG, () -> plot.ofEnd(0, 1, wrong, 0));
            check.fails("ofEnd at end " + wrong + " without a border", plot, WRONG, () -> plot.ofEnd(0, 0, wrong, 0));
        }
        for (int wrong : new int[] {-1, 4, LEAST, MOST}) {
            check.fails("ofEnd of what " + wrong, plot, WRONG, () -> plot.ofEnd(0, 1, 0, wrong));
            check.fails("ofEnd of what " + wrong + " without a border", plot, WRONG, () -> plot.ofEnd(1, 1, 1, wrong));
        }
    }
}
