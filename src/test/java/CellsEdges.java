/** Edges of promises 10 to 14, that no single argument shows. */
final class CellsEdges {
    private static final Class<IndexOutOfBoundsException> NO_SITE = IndexOutOfBoundsException.class;
    private static final Class<IllegalArgumentException> WRONG = IllegalArgumentException.class;
    private static final int NONE = PowerPlot.NONE;

    private final Check check;

    CellsEdges(Check check) {
        this.check = check;
    }

    void run() {
        owners();
        ownersOfTies();
        allOrNothing();
        cornersAndSinglePoints();
        sharesOfTies();
        rows();
        rowsOfOnePoint();
        allBetween();
        hiddenOrNot();
        hiddenByOneAtItsPlace();
        hiddenByTwo();
        hiddenByThree();
        hiddenByFirstAndLastNumbers();
        leastOutsideOrBetweenPoints();
    }

    /** So many sites, all alike at one place. */
    private static Plot alike(int count) {
        Plot plot = new Plot();
        for (int site = 0; site < count; site++) {
            plot.site(20, 20, 7);
        }
        return plot;
    }

    private void owners() {
        check.promise(10, "NONE without sites");
        Plot empty = new Plot();
        check.due("owner", empty.owner(0, 0), NONE);
        check.due("owner", empty.owner(40, 40), NONE);
        check.fails("owner out of range", empty, WRONG, () -> empty.owner(0, 41));
        check.fails("owner out of range", empty, WRONG, () -> empty.owner(-1, 0));
        check.promise(10, "one site owns all");
        Plot one = Plot.of(40, 40, -999);
        check.due("owner far off", one.owner(0, 0), 0);
        check.due("owner at its place", one.owner(40, 40), 0);
        check.promise(10, "the site with the least power, that may be below 0");
        Plot plot = Plot.of(10, 20, 0, 30, 20, 0);
        plot.weight(1, 1);
        check.due("owner in the middle, the second less by 1", plot.owner(20, 0), 1);
        plot.weight(0, 2);
        check.due("owner in the middle, the first less by 1", plot.owner(20, 0), 0);
        plot.weight(1, 999);
        check.due("owner at another one's place", plot.owner(10, 20), 1);
    }

    private void ownersOfTies() {
        check.promise(10, "of several the lowest");
        check.due("owner of what two have alike", Plot.of(30, 20, 0, 10, 20, 0).owner(20, 7), 0);
        check.due("owner of what two have alike", Plot.of(20, 20, -999, 30, 20, 0, 10, 20, 0).owner(20, 7), 1);
        Plot twelve = alike(12);
        for (int site = 0; site < 12; site++) {
            check.due("owner of what those from it on have alike", twelve.owner(3, 40), site);
            twelve.weight(site, 6);
        }
        check.due("owner of what all have alike", twelve.owner(3, 40), 0);
        twelve.weight(11, 7);
        check.due("owner, the last less by 1", twelve.owner(3, 40), 11);
    }

    private void share(Plot plot, int site, int due) {
        check.promise(11, "how many points a site owns, all, some or none");
        check.due("share of " + site, plot.share(site), due);
        check.promise(12, "the same, point by point");
        check.due("shareAnew of " + site, plot.shareAnew(site), due);
    }

    private void allOrNothing() {
        share(Plot.of(0, 0, -999), 0, 1681);
        share(Plot.of(40, 40, 999), 0, 1681);
        Plot nothing = Plot.of(20, 20, 999, 20, 20, 998);
        share(nothing, 0, 1681);
        share(nothing, 1, 0);
        nothing.weight(1, 999);
        share(nothing, 0, 1681);
        share(nothing, 1, 0);
        nothing.weight(0, 998);
        share(nothing, 0, 0);
        share(nothing, 1, 1681);
        Plot twelve = alike(12);
        share(twelve, 0, 1681);
        share(twelve, 11, 0);
        twelve.weight(11, 8);
        share(twelve, 0, 0);
        share(twelve, 11, 1681);
        // From a corner to the one across there are 3200; here the further one's weight is not enough for its own corner.
        Plot own = Plot.of(39, 39, 999, 40, 40, 0);
        share(own, 0, 1681);
        share(own, 1, 0);
    }

    private void cornersAndSinglePoints() {
        // The first one owns where 80 x + 80 y is 3200 and more; and then 4199, and 5198, and more.
        Plot corners = Plot.of(40, 40, 0, 0, 0, 0);
        share(corners, 0, 41 * 42 / 2);
        share(corners, 1, 40 * 41 / 2);
        corners.weight(1, 999);
        share(corners, 0, 28 * 29 / 2);
        corners.weight(0, -999);
        share(corners, 0, 16 * 17 / 2);
        share(corners, 1, 1681 - 16 * 17 / 2);
        Plot point = Plot.of(1, 0, 0, 0, 0, 0, 0, 1, 0);
        share(point, 0, 860);
        share(point, 1, 1);
        share(point, 2, 820);
    }

    private void sharesOfTies() {
        // Columns: the ones at 10 and at 30 are alike far from two.
        share(Plot.of(0, 9, 0, 20, 9, 0, 40, 9, 0), 0, 11 * 41);
        share(Plot.of(0, 9, 0, 20, 9, 0, 40, 9, 0), 1, 20 * 41);
        share(Plot.of(20, 9, 0, 0, 9, 0, 40, 9, 0), 0, 21 * 41);
        share(Plot.of(20, 9, 0, 0, 9, 0, 40, 9, 0), 2, 10 * 41);
        share(Plot.of(0, 9, 0, 40, 9, 0, 20, 9, 0), 2, 19 * 41);
        // Rows.
        share(Plot.of(9, 0, 0, 9, 20, 0, 9, 40, 0), 1, 20 * 41);
        share(Plot.of(9, 20, 0, 9, 0, 0, 9, 40, 0), 0, 21 * 41);
        share(Plot.of(9, 0, 0, 9, 40, 0, 9, 20, 0), 2, 19 * 41);
    }

    private void row(Plot plot, int site, int y, int first, int last) {
        check.due("the first x of " + site + " in row " + y, plot.inRow(site, y, false), first);
        check.due("the last x of " + site + " in row " + y, plot.inRow(site, y, true), last);
    }

    private void rows() {
        check.promise(13, "a whole row, the first and the last one");
        Plot one = Plot.of(0, 40, -999);
        row(one, 0, 0, 0, 40);
        row(one, 0, 40, 0, 40);
        check.promise(13, "NONE if it owns none there");
        Plot halves = Plot.of(20, 10, 0, 20, 30, 0);
        row(halves, 0, 20, 0, 40);
        row(halves, 1, 20, NONE, NONE);
        row(halves, 0, 21, NONE, NONE);
        row(halves, 1, 21, 0, 40);
        row(Plot.of(20, 20, 0, 20, 20, 0), 1, 20, NONE, NONE);
        check.promise(13, "of a tie, the lowest owns it");
        Plot columns = Plot.of(20, 9, 0, 0, 9, 0, 40, 9, 0);
        row(columns, 0, 0, 10, 30);
        row(columns, 1, 0, 0, 9);
        row(columns, 2, 0, 31, 40);
        Plot turned = Plot.of(0, 9, 0, 40, 9, 0, 20, 9, 0);
        row(turned, 0, 40, 0, 10);
        row(turned, 1, 40, 30, 40);
        row(turned, 2, 40, 11, 29);
        check.promise(13, "of several exceptions the one that is named first");
        check.fails("inRow", columns, NO_SITE, () -> columns.inRow(3, 41, false));
        check.fails("inRow", columns, NO_SITE, () -> columns.inRow(-1, -1, true));
        check.fails("inRow", columns, WRONG, () -> columns.inRow(2, 41, true));
        check.fails("inRow", columns, WRONG, () -> columns.inRow(2, -1, false));
    }

    private void rowsOfOnePoint() {
        check.promise(13, "the first is the last, if it owns one point there");
        Plot low = Plot.of(1, 0, 0, 0, 0, 0, 0, 1, 0);
        row(low, 1, 0, 0, 0);
        row(low, 1, 1, NONE, NONE);
        Plot high = Plot.of(39, 40, 0, 40, 40, 0, 40, 39, 0);
        row(high, 1, 40, 40, 40);
        row(high, 1, 39, NONE, NONE);
        Plot diamond = Plot.of(20, 20, 0, 10, 10, 0, 30, 10, 0, 10, 30, 0, 30, 30, 0);
        row(diamond, 0, 9, NONE, NONE);
        row(diamond, 0, 10, 20, 20);
        row(diamond, 0, 11, 19, 21);
        row(diamond, 0, 30, 20, 20);
        row(diamond, 0, 31, NONE, NONE);
        diamond.weight(0, -1);
        row(diamond, 0, 10, NONE, NONE);
        row(diamond, 0, 11, 20, 20);
    }

    private void allBetween() {
        check.promise(13, "these are all between both");
        Plot plot = Plot.of(20, 20, 0, 7, 11, 30, 33, 9, -20, 9, 31, 5, 28, 35, 60, 20, 20, 0, 21, 20, -1);
        for (int site = 0; site < 7; site++) {
            for (int y = 0; y <= 40; y += 4) {
                int first = plot.inRow(site, y, false);
                int last = plot.inRow(site, y, true);
                for (int x = 0; x <= 40; x++) {
                    boolean isBetween = first != NONE && x >= first && x <= last;
                    check.due(site + " owns " + x + ", " + y, plot.owner(x, y) == site, isBetween);
                }
            }
        }
    }

    private void hidden(Plot plot, int site, boolean due) {
        check.due("isHidden of " + site + " of " + Snapshot.of(plot), plot.isHidden(site), due);
    }

    private void hiddenOrNot() {
        check.promise(14, "one site alone, and two at unlike places, are not hidden, whatever their weights");
        hidden(Plot.of(0, 0, -999), 0, false);
        hidden(Plot.of(20, 20, 999), 0, false);
        Plot two = Plot.of(20, 20, -999, 20, 21, 999);
        hidden(two, 0, false);
        hidden(two, 1, false);
        two.move(1, 21, 20);
        hidden(two, 0, false);
        two.move(1, 19, 19);
        hidden(two, 0, false);
    }

    private void hiddenByOneAtItsPlace() {
        check.promise(14, "of alike ones at one place all are");
        for (int count = 2; count <= 12; count += 5) {
            Plot plot = alike(count);
            for (int site = 0; site < count; site++) {
                hidden(plot, site, true);
            }
            check.promise(14, "its height is at least what one other at its place has");
            plot.weight(count - 1, 8);
            hidden(plot, count - 1, false);
            hidden(plot, 0, true);
            plot.weight(0, 9);
            hidden(plot, count - 1, true);
            hidden(plot, 0, false);
            plot.move(0, 20, 21);
            hidden(plot, count - 1, false);
        }
    }

    private void hiddenByTwo() {
        check.promise(14, "or at least what lies at its place straight between the heights of two others");
        // Heights 0 and 1600; a quarter of the way they make 400.
        Plot plot = Plot.of(10, 0, -299, 0, 0, 0, 40, 0, 0);
        hidden(plot, 0, false);
        plot.weight(0, -300);
        hidden(plot, 0, true);
        plot.weight(0, -301);
        hidden(plot, 0, true);
        check.promise(14, "the two are never hidden by it");
        hidden(plot, 1, false);
        hidden(plot, 2, false);
        check.promise(14, "between whose places it is");
        plot.weight(0, -999);
        plot.move(1, 11, 0);
        hidden(plot, 0, false);
        plot.move(1, 0, 0);
        plot.move(2, 9, 0);
        hidden(plot, 0, false);
        check.promise(14, "what is at the ends counts as well");
        plot.move(2, 10, 0);
        hidden(plot, 0, true);
        plot.weight(2, -999);
        hidden(plot, 0, true);
        hidden(plot, 2, true);
        plot.weight(2, -1000 + 2);
        hidden(plot, 0, true);
        hidden(plot, 2, false);
        check.promise(14, "between, on upright and on slanting lines");
        // A place a quarter of the way, how far below 0 its weight is when its height is just between, and both ends.
        int[][] lines = {{0, 10, 300, 0, 0, 0, 40}, {10, 10, 600, 0, 0, 40, 40}, {10, 30, 600, 0, 40, 40, 0},
            {30, 10, 600, 40, 0, 0, 40}, {0, 30, 300, 0, 40, 0, 0}};
        for (int[] line : lines) {
            Plot on = Plot.of(line[0], line[1], 1 - line[2], line[3], line[4], 0, line[5], line[6], 0);
            hidden(on, 0, false);
            on.weight(0, -line[2]);
            hidden(on, 0, true);
            on.weight(0, -999);
            // As far on the side of the other end.
            on.move(1, 2 * line[0] - line[3], 2 * line[1] - line[4]);
            hidden(on, 0, false);
        }
        check.promise(14, "straight between: not beside the line, nor by two at one place");
        Plot beside = Plot.of(20, 21, -999, 0, 20, 0, 40, 20, 0);
        hidden(beside, 0, false);
        beside.move(0, 20, 20);
        hidden(beside, 0, true);
        beside.move(1, 40, 20);
        hidden(beside, 0, false);
    }

    private void hiddenByThree() {
        int[][] orders = {{0, 0, 40, 0, 0, 40}, {0, 0, 0, 40, 40, 0}, {40, 0, 0, 0, 0, 40},
            {40, 0, 0, 40, 0, 0}, {0, 40, 0, 0, 40, 0}, {0, 40, 40, 0, 0, 0}};
        for (int[] order : orders) {
            hiddenByThree(Plot.of(10, 10, -599, order[0], order[1], 0, order[2], order[3], 0, order[4], order[5], 0));
        }
    }

    private void hiddenByThree(Plot plot) {
        check.promise(14, "or at least what lies at its place in the plane through the heights of three others");
        // The plane is at 40 x + 40 y.
        hidden(plot, 0, false);
        plot.weight(0, -600);
        hidden(plot, 0, true);
        plot.weight(0, -601);
        hidden(plot, 0, true);
        check.promise(14, "what is at the sides counts as well");
        int[][] sides = {{20, 20, 800}, {20, 0, 400}, {0, 20, 400}, {39, 1, 78}, {1, 0, 39}};
        for (int[] side : sides) {
            plot.move(0, side[0], side[1]);
            plot.weight(0, 1 - side[2]);
            hidden(plot, 0, false);
            plot.weight(0, -side[2]);
            hidden(plot, 0, true);
        }
        check.promise(14, "within the triangle of whose places it is");
        plot.weight(0, -999);
        int[][] outside = {{21, 20}, {20, 21}, {40, 40}, {40, 1}, {1, 40}};
        for (int[] place : outside) {
            plot.move(0, place[0], place[1]);
            hidden(plot, 0, false);
        }
        check.promise(14, "the triangle is unlike a line");
        Plot line = Plot.of(20, 21, -999, 0, 20, 0, 20, 20, 0, 40, 20, 0);
        hidden(line, 0, false);
        line.move(0, 21, 20);
        hidden(line, 0, true);
        // Over 1, 1 the plane is at 10 thirds, which is no whole number.
        check.promise(14, "what lies in the plane is a fraction");
        Plot small = Plot.of(1, 1, -1, 0, 0, 0, 2, 1, 0, 1, 2, 0);
        hidden(small, 0, false);
        small.weight(0, -2);
        hidden(small, 0, true);
    }

    /** As many sites as there may be, but for those that a test moves too high to hide any of these. */
    private static Plot twelveThatHideNone(int x, int y) {
        Plot plot = new Plot();
        for (int site = 0; site < 12; site++) {
            plot.site(x, y, -999);
        }
        return plot;
    }

    private static void place(Plot plot, int site, int x, int y, int weight) {
        plot.move(site, x, y);
        plot.weight(site, weight);
    }

    /** The hiders are told first, the one that they hide last. */
    private void hiddenByFirstAndLastNumbers() {
        check.promise(14, "its height is at least what one other at its place has, the first or the last of twelve");
        int[][] twos = {{0, 11}, {11, 0}, {11, 10}, {10, 11}, {5, 6}};
        for (int[] two : twos) {
            Plot plot = twelveThatHideNone(40, 40);
            place(plot, two[0], 10, 10, 5);
            place(plot, two[1], 10, 10, 6);
            hidden(plot, two[1], false);
            plot.weight(two[1], 5);
            hidden(plot, two[1], true);
        }
        for (int[] two : twos) {
            Plot plot = alike(12);
            plot.weight(two[0], 9);
            plot.weight(two[1], 8);
            hidden(plot, two[0], false);
            hidden(plot, two[1], true);
            plot.weight(two[0], 7);
            hidden(plot, two[1], false);
        }
        check.promise(14, "straight between the heights of two others, the first or the last of twelve");
        int[][] threes = {{0, 1, 11}, {0, 11, 5}, {11, 0, 10}, {10, 11, 0}, {11, 9, 10}};
        for (int[] three : threes) {
            // All on one line, so that no three of them are a triangle.
            Plot plot = twelveThatHideNone(38, 0);
            place(plot, three[0], 0, 0, 0);
            place(plot, three[1], 40, 0, 0);
            place(plot, three[2], 10, 0, -299);
            hidden(plot, three[2], false);
            plot.weight(three[2], -300);
            hidden(plot, three[2], true);
        }
        check.promise(14, "in the plane through the heights of three others, the first or the last of twelve");
        int[][] fours = {{0, 1, 2, 11}, {9, 10, 11, 0}, {0, 5, 11, 3}, {1, 6, 11, 0}, {11, 1, 0, 10}};
        for (int[] four : fours) {
            Plot plot = twelveThatHideNone(40, 40);
            place(plot, four[0], 0, 0, 0);
            place(plot, four[1], 40, 0, 0);
            place(plot, four[2], 0, 40, 0);
            place(plot, four[3], 10, 10, -599);
            hidden(plot, four[3], false);
            plot.weight(four[3], -600);
            hidden(plot, four[3], true);
        }
    }

    private void leastOutsideOrBetweenPoints() {
        check.promise(14, "no place in the plane, in the box or not");
        Plot outside = Plot.of(39, 39, 999, 40, 40, -999);
        check.due("share", outside.share(1), 0);
        hidden(outside, 1, false);
        check.promise(14, "no place in the plane, whole or not");
        // The middle one is least from 20.475 to 20.525 alone; with a weight less by 1 nowhere.
        Plot strip = Plot.of(0, 20, 20, 20, 20, -399, 40, 20, -20);
        check.due("share", strip.share(1), 0);
        hidden(strip, 1, false);
        strip.weight(1, -400);
        hidden(strip, 1, true);
        // The last one is least near 19.5, 19.5 alone.
        Plot triangle = Plot.of(0, 0, 0, 39, 0, 0, 0, 39, 0, 10, 10, -579);
        check.due("share", triangle.share(3), 0);
        hidden(triangle, 3, false);
        triangle.weight(3, -580);
        hidden(triangle, 3, true);
    }
}
