/** Promises 10 to 14: owners, shares, rows, and what is hidden. */
public final class CellsTest {
    private static final Class<IndexOutOfBoundsException> NO_SITE = IndexOutOfBoundsException.class;
    private static final Class<IllegalArgumentException> WRONG = IllegalArgumentException.class;
    private static final int LEAST = Integer.MIN_VALUE, MOST = Integer.MAX_VALUE;
    private static final Check check = new Check("CellsTest");

    public static void main(String[] args) {
        oneSiteOwnsAll();
        tiesGoToTheLowest();
        weightsShiftCells();
        rowsWithGaps();
        refusesCells();
        hiddenAtOnePlace();
        hiddenOnALine();
        hiddenInATriangle();
        hiddenIsNotShareless();
        refusesHidden();
        check.end();
    }

    private static void shares(Plot plot, int... due) {
        for (int site = 0; site < due.length; site++) {
            int asked = site;
            check.asks("share", plot, () -> check.due("share " + asked, plot.share(asked), due[asked]));
            check.asks("shareAnew", plot, () -> check.due("shareAnew " + asked, plot.shareAnew(asked), due[asked]));
        }
    }

    private static void row(Plot plot, int site, int y, int first, int last) {
        check.due("the first in row " + y + " of " + site, plot.inRow(site, y, false), first);
        check.due("the last in row " + y + " of " + site, plot.inRow(site, y, true), last);
    }

    private static void oneSiteOwnsAll() {
        Plot plot = Plot.of(7, 9, -999);
        shares(plot, 1681);
        row(plot, 0, 0, 0, 40);
        row(plot, 0, 40, 0, 40);
        check.due("owner", plot.owner(40, 40), 0);
    }

    private static void tiesGoToTheLowest() {
        Plot plot = Plot.of(0, 20, 0, 20, 20, 0, 40, 20, 0);
        shares(plot, 11 * 41, 20 * 41, 10 * 41);
        row(plot, 0, 3, 0, 10);
        row(plot, 1, 3, 11, 30);
        row(plot, 2, 3, 31, 40);
        check.due("owner on a tie", plot.owner(10, 0), 0);
        check.due("owner on a tie", plot.owner(30, 40), 1);
        check.due("owner behind a tie", plot.owner(31, 40), 2);
        Plot turned = Plot.of(40, 20, 0, 20, 20, 0, 0, 20, 0);
        shares(turned, 11 * 41, 20 * 41, 10 * 41);
        row(turned, 0, 3, 30, 40);
        row(turned, 1, 3, 10, 29);
        row(turned, 2, 3, 0, 9);
        Plot upright = Plot.of(20, 10, 0, 20, 30, 0);
        shares(upright, 21 * 41, 20 * 41);
        row(upright, 0, 20, 0, 40);
        row(upright, 1, 20, PowerPlot.NONE, PowerPlot.NONE);
        row(upright, 1, 21, 0, 40);
        row(upright, 0, 21, PowerPlot.NONE, PowerPlot.NONE);
        Plot alike = Plot.of(5, 5, 3, 5, 5, 3, 5, 5, 4);
        shares(alike, 0, 0, 1681);
        alike.weight(2, 3);
        shares(alike, 1681, 0, 0);
        row(alike, 1, 5, PowerPlot.NONE, PowerPlot.NONE);
    }

    private static void weightsShiftCells() {
        Plot plot = Plot.of(10, 20, 0, 30, 20, 0);
        shares(plot, 861, 820);
        plot.weight(1, 40);
        shares(plot, 820, 861);
        plot.weight(1, 41);
        row(plot, 0, 5, 0, 18);
        plot.weight(1, -999);
        row(plot, 0, 5, 0, 40);
        row(plot, 1, 5, PowerPlot.NONE, PowerPlot.NONE);
        plot.move(1, 10, 21);
        plot.weight(1, 0);
        shares(plot, 21 * 41, 20 * 41);
    }

    private static void rowsWithGaps() {
        // The first one's cell is a diamond about the middle: within 10 of it, along both coordinates together.
        Plot plot = Plot.of(20, 20, 0, 10, 10, 0, 30, 10, 0, 10, 30, 0, 30, 30, 0);
        row(plot, 0, 9, PowerPlot.NONE, PowerPlot.NONE);
        row(plot, 0, 10, 20, 20);
        row(plot, 0, 12, 18, 22);
        row(plot, 0, 20, 10, 30);
        row(plot, 0, 30, 20, 20);
        row(plot, 0, 31, PowerPlot.NONE, PowerPlot.NONE);
        check.due("its share", plot.share(0), 221);
        check.due("its share anew", plot.shareAnew(0), 221);
    }

    private static void refusesCells() {
        Plot plot = Plot.of(20, 20, 0, 10, 10, 0);
        for (int wrong : new int[] {-1, 41, LEAST, MOST}) {
            check.fails("owner at x " + wrong, plot, WRONG, () -> plot.owner(wrong, 0));
            check.fails("owner at y " + wrong, plot, WRONG, () -> plot.owner(0, wrong));
            check.fails("inRow " + wrong, plot, WRONG, () -> plot.inRow(0, wrong, true));
            check.fails("inRow with both wrong", plot, NO_SITE, () -> plot.inRow(2, wrong, false));
        }
        Plot empty = new Plot();
        check.fails("owner without sites", empty, WRONG, () -> empty.owner(41, 0));
        for (int none : new int[] {-1, 2, 11, 12, LEAST, MOST}) {
            check.fails("share of " + none, plot, NO_SITE, () -> plot.share(none));
            check.fails("shareAnew of " + none, plot, NO_SITE, () -> plot.shareAnew(none));
            check.fails("inRow of " + none, plot, NO_SITE, () -> plot.inRow(none, 0, false));
        }
    }

    private static void hiddenAtOnePlace() {
        Plot plot = Plot.of(7, 9, -999);
        check.due("alone", plot.isHidden(0), false);
        plot.site(7, 9, -999);
        check.due("one of two alike", plot.isHidden(0), true);
        check.due("the other of two alike", plot.isHidden(1), true);
        plot.weight(1, -998);
        check.due("the lighter", plot.isHidden(0), true);
        check.due("the heavier", plot.isHidden(1), false);
        plot.move(1, 7, 10);
        check.due("at unlike places", plot.isHidden(0), false);
        Plot three = Plot.of(7, 9, 5, 7, 9, 5, 7, 9, 6, 7, 9, 5);
        check.due("the heaviest of four", three.isHidden(2), false);
        check.due("the last of them", three.isHidden(3), true);
    }

    private static void hiddenOnALine() {
        // Heights 0 and 1600: at x = 10 the line between them is at 400.
        Plot plot = Plot.of(0, 0, 0, 40, 0, 0, 10, 0, -299);
        check.due("below the line", plot.isHidden(2), false);
        plot.weight(2, -300);
        check.due("on the line", plot.isHidden(2), true);
        plot.weight(2, -301);
        check.due("above the line", plot.isHidden(2), true);
        check.due("an end of the line", plot.isHidden(0), false);
        plot.move(1, 9, 0);
        check.due("no longer between", plot.isHidden(2), false);
        plot.move(1, 40, 1);
        check.due("no longer on the line", plot.isHidden(2), false);
        // Near the other end the line is at 1200.
        plot.move(1, 40, 0);
        plot.move(2, 30, 0);
        check.due("above the line", plot.isHidden(2), true);
        plot.weight(2, -299);
        check.due("below the line", plot.isHidden(2), false);
        plot.weight(2, -300);
        check.due("on the line", plot.isHidden(2), true);
        Plot slanted = Plot.of(1, 2, 0, 13, 10, 0, 4, 4, -38);
        // Heights 5 and 269, a quarter of the way: 71; its own is 32 less its weight.
        check.due("below a slanted line", slanted.isHidden(2), false);
        slanted.weight(2, -39);
        check.due("on a slanted line", slanted.isHidden(2), true);
        Plot upright = Plot.of(7, 0, 0, 7, 10, -299, 7, 40, 0);
        check.due("below an upright line", upright.isHidden(1), false);
        upright.weight(1, -300);
        check.due("on an upright line", upright.isHidden(1), true);
        upright.move(0, 7, 11);
        check.due("under an upright line", upright.isHidden(1), false);
    }

    private static void hiddenInATriangle() {
        // The plane through the corners is at 40 x + 40 y.
        int[][] corners = {{0, 0, 0, 40, 0, 0, 0, 40, 0}, {0, 0, 0, 0, 40, 0, 40, 0, 0}, {40, 0, 0, 0, 0, 0, 0, 40, 0}};
        for (int[] corner : corners) {
            Plot plot = Plot.of(corner);
            plot.site(10, 10, -599);
            check.due("below the plane", plot.isHidden(3), false);
            plot.weight(3, -600);
            check.due("on the plane", plot.isHidden(3), true);
            plot.weight(3, -601);
            check.due("above the plane", plot.isHidden(3), true);
            plot.move(3, 20, 20);
            plot.weight(3, -799);
            check.due("below a side", plot.isHidden(3), false);
            plot.weight(3, -800);
            check.due("on a side", plot.isHidden(3), true);
            plot.move(3, 21, 20);
            plot.weight(3, -999);
            check.due("outside the triangle", plot.isHidden(3), false);
        }
        // A small triangle: its plane is at 10 thirds over 1, 1, where the height is 2 less the weight.
        Plot small = Plot.of(0, 0, 0, 2, 1, 0, 1, 2, 0, 1, 1, -1);
        check.due("a third below the plane", small.isHidden(3), false);
        small.weight(3, -2);
        check.due("two thirds above the plane", small.isHidden(3), true);
        int[][] outside = {{2, 2}, {0, 1}, {1, 0}, {2, 0}, {0, 2}, {3, 2}};
        for (int[] place : outside) {
            small.weight(3, -999);
            small.move(3, place[0], place[1]);
            check.due("near the triangle", small.isHidden(3), false);
        }
        Plot line = Plot.of(0, 0, 0, 20, 20, 0, 40, 40, 0, 20, 19, -999);
        check.due("three others on a line", line.isHidden(3), false);
        Plot far = Plot.of(20, 20, 0, 40, 40, 0, 0, 0, 0, 0, 1, 0, 40, 0, 0, 0, 40, 0);
        check.due("behind others that hide nothing", far.isHidden(0), false);
        far.weight(0, -800);
        check.due("between far others", far.isHidden(0), true);
    }

    private static void hiddenIsNotShareless() {
        Plot plot = Plot.of(39, 39, 999, 40, 40, -999);
        check.due("the share of one that is least outside the box alone", plot.share(1), 0);
        check.asks("isHidden", plot, () -> check.due("hidden", plot.isHidden(1), false));
    }

    private static void refusesHidden() {
        Plot plot = Plot.of(20, 20, 0, 10, 10, 0);
        for (int none : new int[] {-1, 2, 11, 12, LEAST, MOST}) {
            check.fails("isHidden of " + none, plot, NO_SITE, () -> plot.isHidden(none));
        }
        Plot empty = new Plot();
        check.fails("isHidden without sites", empty, NO_SITE, () -> empty.isHidden(0));
    }
}
