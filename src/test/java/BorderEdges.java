/** Edges of promises 15 to 18, that no single argument shows. */
final class BorderEdges {
    private static final Class<IndexOutOfBoundsException> NO_SITE = IndexOutOfBoundsException.class;
    private static final Class<IllegalArgumentException> WRONG = IllegalArgumentException.class;
    private static final Class<IllegalStateException> NO_BORDER = IllegalStateException.class;
    private static final int NONE = PowerPlot.NONE, BOX = PowerPlot.BOX, SAME = PowerPlot.SAME;

    private final Check check;
    private String sentence;

    BorderEdges(Check check) {
        this.check = check;
    }

    void run() {
        samePlaces();
        cornersOfTheBox();
        sidesOfTheBox();
        onePointOrMoreByAnother();
        onePointByTwoTogether();
        theSameEndCutTwice();
        boxFirstThenRisingNumbers();
        sitesThatCutNothing();
        hiddenOnesCutToo();
        atTheEndsOfTheNumbers();
        ends();
        endsOfUprightAndLevelOnes();
        refusedEnds();
        neighbours();
    }

    private void says(String sentence) {
        this.sentence = sentence;
    }

    /** There is none by this cause, told in either order and by each of the methods. */
    private void none(Plot plot, int site, int other, int cause) {
        String two = site + " and " + other + " of " + Snapshot.of(plot);
        check.promise(15, sentence);
        check.due("hasBorder " + two, plot.hasBorder(site, other), false);
        check.due("hasBorder, turned, " + two, plot.hasBorder(other, site), false);
        check.promise(16, sentence);
        check.due("why " + two, plot.why(site, other), cause);
        check.due("why, turned, " + two, plot.why(other, site), cause);
        check.promise(17, sentence);
        check.fails("ofEnd " + two, plot, NO_BORDER, () -> plot.ofEnd(site, other, 0, 0));
        check.fails("ofEnd, turned, " + two, plot, NO_BORDER, () -> plot.ofEnd(other, site, 1, 3));
    }

    /** It is there, from end to end: what is above and below the strokes of x and y of the first one and of the other. */
    private void there(Plot plot, int site, int other, long... due) {
        String two = site + " and " + other + " of " + Snapshot.of(plot);
        check.promise(15, sentence);
        check.due("hasBorder " + two, plot.hasBorder(site, other), true);
        check.due("hasBorder, turned, " + two, plot.hasBorder(other, site), true);
        check.promise(16, sentence);
        check.due("why " + two, plot.why(site, other), NONE);
        check.due("why, turned, " + two, plot.why(other, site), NONE);
        check.promise(17, sentence);
        for (int i = 0; i < 8; i++) {
            int end = i / 4, what = i % 4;
            check.due("ofEnd " + end + " " + what + ", " + two, plot.ofEnd(site, other, end, what), due[i]);
            check.due("ofEnd " + end + " " + what + ", turned, " + two, plot.ofEnd(other, site, end, what), due[i]);
        }
    }

    private void samePlaces() {
        says("of two sites at unlike places; for one with itself there is none, too");
        Plot one = Plot.of(20, 20, 0);
        none(one, 0, 0, SAME);
        Plot plot = Plot.of(5, 6, 0, 5, 6, 999, 5, 6, 0, 30, 30, 0);
        none(plot, 3, 3, SAME);
        none(plot, 0, 0, SAME);
        none(plot, 0, 1, SAME);
        none(plot, 0, 2, SAME);
        says("places that are alike in x or in y alone are unlike");
        there(Plot.of(5, 6, 0, 5, 8, 0), 0, 1, 0, 1, 7, 1, 40, 1, 7, 1);
        there(Plot.of(5, 6, 0, 7, 6, 0), 0, 1, 6, 1, 0, 1, 6, 1, 40, 1);
        there(Plot.of(3, 8, 0, 8, 3, 0), 0, 1, 0, 1, 0, 1, 40, 1, 40, 1);
    }

    private void cornersOfTheBox() {
        int[][] corners = {{0, 0, 1, 1}, {40, 0, -1, 1}, {0, 40, 1, -1}, {40, 40, -1, -1}};
        for (int[] corner : corners) {
            Plot plot = Plot.of(corner[0], corner[1], 0, corner[0] + corner[2], corner[1] + corner[3], 3);
            says("the box leaves nothing of it");
            none(plot, 0, 1, BOX);
            says("the box leaves one point of it, a corner");
            plot.weight(1, 2);
            none(plot, 0, 1, BOX);
            says("it is there, if it is longer than one point, between points of the box's corner");
            plot.weight(1, 1);
            long near = corner[0] == 0 ? 0 : 79, far = corner[0] == 0 ? 1 : 40;
            long nearBy = corner[0] == 0 ? 1 : 2, farBy = corner[0] == 0 ? 2 : 1;
            long y = corner[1], middle = corner[1] == 0 ? 1 : 79;
            boolean isFirstAtSide = corner[0] == 0;
            there(plot, 0, 1, near, nearBy, isFirstAtSide ? middle : y, isFirstAtSide ? 2 : 1,
                far, farBy, isFirstAtSide ? y : middle, isFirstAtSide ? 1 : 2);
        }
        says("across the box from corner to corner");
        there(Plot.of(0, 0, 0, 40, 40, 0), 0, 1, 0, 1, 40, 1, 40, 1, 0, 1);
        there(Plot.of(0, 40, 0, 40, 0, 0), 0, 1, 0, 1, 0, 1, 40, 1, 40, 1);
    }

    private void sidesOfTheBox() {
        says("made of the points of the box, its sides with it");
        Plot left = Plot.of(0, 20, 0, 1, 20, 1);
        there(left, 0, 1, 0, 1, 0, 1, 0, 1, 40, 1);
        Plot right = Plot.of(40, 20, 0, 39, 20, 1);
        there(right, 0, 1, 40, 1, 0, 1, 40, 1, 40, 1);
        Plot low = Plot.of(20, 0, 0, 20, 1, 1);
        there(low, 0, 1, 0, 1, 0, 1, 40, 1, 0, 1);
        Plot high = Plot.of(20, 40, 0, 20, 39, 1);
        there(high, 0, 1, 0, 1, 40, 1, 40, 1, 40, 1);
        says("the box leaves nothing of it");
        for (Plot plot : new Plot[] {left, right, low, high}) {
            plot.weight(1, 2);
            none(plot, 0, 1, BOX);
        }
        says("not just points");
        for (Plot plot : new Plot[] {left, right, low, high}) {
            plot.weight(1, 0);
        }
        there(left, 0, 1, 1, 2, 0, 1, 1, 2, 40, 1);
        there(right, 0, 1, 79, 2, 0, 1, 79, 2, 40, 1);
        there(low, 0, 1, 0, 1, 1, 2, 40, 1, 1, 2);
        there(high, 0, 1, 0, 1, 79, 2, 40, 1, 79, 2);
    }

    private void onePointOrMoreByAnother() {
        // Of the first two the border is x = 20; the third one has less up to y = 20 and a fortieth of its weight.
        Plot plot = Plot.of(0, 20, 0, 40, 20, 0, 20, 0, 799);
        says("it is there, if it is longer than one point");
        there(plot, 0, 1, 20, 1, 1599, 40, 20, 1, 40, 1);
        says("what leaves no more than one point of it is the cause");
        plot.weight(2, 800);
        none(plot, 0, 1, 2);
        says("what leaves nothing of it is the cause");
        plot.weight(2, 801);
        none(plot, 0, 1, 2);
        says("one that has the same power at an end alone cuts nothing off");
        plot.weight(2, -800);
        there(plot, 0, 1, 20, 1, 0, 1, 20, 1, 40, 1);
        says("one that has less at the end alone cuts it shorter");
        plot.weight(2, -799);
        there(plot, 0, 1, 20, 1, 1, 40, 20, 1, 40, 1);
        says("no more than one point of it, from the side of greater y");
        plot.move(2, 20, 40);
        plot.weight(2, 800);
        none(plot, 0, 1, 2);
        plot.weight(2, 799);
        there(plot, 0, 1, 20, 1, 0, 1, 20, 1, 1, 40);
        says("no more than one point of a level one");
        Plot level = Plot.of(20, 0, 0, 20, 40, 0, 0, 20, 800);
        none(level, 0, 1, 2);
        level.weight(2, 799);
        there(level, 0, 1, 1599, 40, 20, 1, 40, 1, 20, 1);
        level.move(2, 40, 20);
        there(level, 0, 1, 0, 1, 20, 1, 1, 40, 20, 1);
        level.weight(2, 800);
        none(level, 0, 1, 2);
        says("one beside it all along takes all or nothing");
        level.move(2, 20, 20);
        level.weight(2, -401);
        there(level, 0, 1, 0, 1, 20, 1, 40, 1, 20, 1);
        level.weight(2, -399);
        none(level, 0, 1, 2);
    }

    private void onePointByTwoTogether() {
        says("two leave one point together, and neither alone: the one that does is the cause");
        Plot plot = Plot.of(0, 20, 0, 40, 20, 0, 20, 0, 0, 20, 40, 0);
        none(plot, 0, 1, 3);
        none(plot, 2, 3, 1);
        says("two leave more than one point together");
        plot.weight(3, -1);
        there(plot, 0, 1, 20, 1, 20, 1, 20, 1, 801, 40);
        says("two leave nothing together");
        plot.weight(3, 1);
        none(plot, 0, 1, 3);
    }

    private void theSameEndCutTwice() {
        says("no other site has less, of two that cut it from one side the further, in whichever order");
        // The further one leaves what is from 20 on, the other one what is from 17.5 on; or up to 20, and to 22.5.
        int[] weights = {0, -100};
        for (int turn = 0; turn < 2; turn++) {
            int first = weights[turn], second = weights[1 - turn];
            there(Plot.of(0, 20, 0, 40, 20, 0, 20, 0, first, 20, 0, second), 0, 1, 20, 1, 20, 1, 20, 1, 40, 1);
            there(Plot.of(0, 20, 0, 40, 20, 0, 20, 40, first, 20, 40, second), 0, 1, 20, 1, 0, 1, 20, 1, 20, 1);
            there(Plot.of(20, 0, 0, 20, 40, 0, 0, 20, first, 0, 20, second), 0, 1, 20, 1, 20, 1, 40, 1, 20, 1);
            there(Plot.of(20, 0, 0, 20, 40, 0, 40, 20, first, 40, 20, second), 0, 1, 0, 1, 20, 1, 20, 1, 20, 1);
        }
    }

    private void boxFirstThenRisingNumbers() {
        says("by the box first, then by the other sites, by rising numbers");
        Plot plot = Plot.of(20, 20, 999, 0, 20, 0, 20, 20, 999, 40, 20, 0, 20, 20, 999);
        none(plot, 1, 3, 0);
        plot.weight(0, -999);
        none(plot, 1, 3, 2);
        plot.weight(2, -999);
        none(plot, 1, 3, 4);
        plot.weight(4, -999);
        there(plot, 1, 3, 20, 1, 0, 1, 20, 1, 40, 1);
        plot.weight(0, 999);
        says("the box is the cause, whatever another site would leave");
        plot.move(1, 0, 0);
        plot.move(3, 1, 0);
        plot.weight(3, 2);
        none(plot, 1, 3, BOX);
        says("the box leaves something, and another site is the cause");
        plot.weight(3, 1);
        none(plot, 1, 3, 0);
        says("places that are the same are the cause, whatever the box and another site would leave");
        plot.move(3, 0, 0);
        none(plot, 1, 3, SAME);
        plot.weight(3, 999);
        none(plot, 1, 3, SAME);
    }

    private void sitesThatCutNothing() {
        says("one that has the same power all along it cuts nothing");
        Plot plot = Plot.of(0, 20, 0, 40, 20, 0, 20, 20, -400);
        there(plot, 0, 1, 20, 1, 0, 1, 20, 1, 40, 1);
        there(plot, 0, 2, 20, 1, 0, 1, 20, 1, 40, 1);
        there(plot, 1, 2, 20, 1, 0, 1, 20, 1, 40, 1);
        says("one that has less all along it leaves nothing");
        plot.weight(2, -399);
        none(plot, 0, 1, 2);
        says("one that has more all along it cuts nothing, and has no border itself");
        plot.weight(2, -401);
        there(plot, 0, 1, 20, 1, 0, 1, 20, 1, 40, 1);
        none(plot, 0, 2, 1);
        none(plot, 1, 2, 0);
        says("one alike at the place of either cuts nothing");
        plot.move(2, 40, 20);
        plot.weight(2, 0);
        there(plot, 0, 1, 20, 1, 0, 1, 20, 1, 40, 1);
        there(plot, 0, 2, 20, 1, 0, 1, 20, 1, 40, 1);
        plot.weight(2, 1);
        none(plot, 0, 1, 2);
    }

    private void hiddenOnesCutToo() {
        says("hidden ones too");
        Plot plot = Plot.of(0, 20, 0, 40, 20, 0, 20, 20, 0, 20, 20, 500);
        check.due("the third is hidden", plot.isHidden(2), true);
        none(plot, 0, 1, 2);
        says("the border of a hidden one is cut like others");
        none(plot, 0, 2, 3);
        says("a hidden one may have a border, along one of others");
        Plot strip = Plot.of(0, 20, 20, 20, 20, -400, 40, 20, -20);
        check.due("the second is hidden", strip.isHidden(1), true);
        there(strip, 0, 1, 41, 2, 0, 1, 41, 2, 40, 1);
        there(strip, 0, 2, 41, 2, 0, 1, 41, 2, 40, 1);
        there(strip, 1, 2, 41, 2, 0, 1, 41, 2, 40, 1);
    }

    private void atTheEndsOfTheNumbers() {
        int[][] threes = {{0, 1, 11}, {10, 11, 0}, {0, 11, 5}, {1, 11, 0}, {0, 10, 11}};
        for (int[] three : threes) {
            Plot plot = new Plot();
            for (int site = 0; site < 12; site++) {
                plot.site(20, 20, -999);
            }
            plot.move(three[0], 0, 20);
            plot.weight(three[0], 0);
            plot.move(three[1], 40, 20);
            plot.weight(three[1], 0);
            says("with as many sites as there may be");
            there(plot, three[0], three[1], 20, 1, 0, 1, 20, 1, 40, 1);
            says("with as many sites as there may be, one of them the cause");
            plot.weight(three[2], 0);
            none(plot, three[0], three[1], three[2]);
        }
    }

    private void ends() {
        says("as fractions, without common factors, with a number below the stroke that is above 0; 0 is 0 by 1");
        there(Plot.of(10, 20, 0, 30, 20, 5), 0, 1, 159, 8, 0, 1, 159, 8, 40, 1);
        there(Plot.of(10, 20, 5, 30, 20, 0), 0, 1, 161, 8, 0, 1, 161, 8, 40, 1);
        there(Plot.of(10, 20, 0, 30, 20, 10), 0, 1, 79, 4, 0, 1, 79, 4, 40, 1);
        there(Plot.of(10, 20, 0, 30, 20, 40), 0, 1, 19, 1, 0, 1, 19, 1, 40, 1);
        there(Plot.of(20, 10, 0, 20, 30, 7), 0, 1, 0, 1, 793, 40, 40, 1, 793, 40);
        // 3 x + y = 5, which is least at y = 0 and at x = 0.
        there(Plot.of(0, 0, 0, 3, 1, 0), 0, 1, 0, 1, 5, 1, 5, 3, 0, 1);
        // x + 3 y = 5.
        there(Plot.of(0, 0, 0, 1, 3, 0), 0, 1, 0, 1, 5, 3, 5, 1, 0, 1);
        says("the first end is that with the lesser x, whether its y is lesser or greater");
        there(Plot.of(10, 10, 0, 30, 30, 0), 0, 1, 0, 1, 40, 1, 40, 1, 0, 1);
        there(Plot.of(10, 30, 0, 30, 10, 0), 0, 1, 0, 1, 0, 1, 40, 1, 40, 1);
        says("an end that is made by another site, exactly");
        // Both lines are x + 3 y = 5 and 3 x + y = 5.
        Plot three = Plot.of(0, 0, 0, 1, 3, 0, 3, 1, 0);
        there(three, 0, 1, 0, 1, 5, 3, 5, 4, 5, 4);
        there(three, 0, 2, 5, 4, 5, 4, 5, 3, 0, 1);
        there(three, 1, 2, 5, 4, 5, 4, 40, 1, 40, 1);
    }

    private void endsOfUprightAndLevelOnes() {
        says("of like x the first end is that with the lesser y");
        Plot upright = Plot.of(30, 20, 0, 10, 20, 0, 20, 0, 200, 20, 40, 100);
        there(upright, 0, 1, 20, 1, 35, 2, 20, 1, 25, 1);
        says("of a level one the first end is that with the lesser x");
        Plot level = Plot.of(20, 30, 0, 20, 10, 0, 0, 20, 200, 40, 20, 100);
        there(level, 0, 1, 35, 2, 20, 1, 25, 1, 20, 1);
    }

    private void refusedEnds() {
        check.promise(17, "of several exceptions the one that is named first: no site, out of range, no border");
        Plot plot = Plot.of(10, 20, 0, 30, 20, 0, 10, 20, 0, 0, 0, -999);
        check.fails("no such site, out of range", plot, NO_SITE, () -> plot.ofEnd(0, 4, 2, 4));
        check.fails("no such site, out of range", plot, NO_SITE, () -> plot.ofEnd(-1, 1, -1, -1));
        check.fails("no such site, of either", plot, NO_SITE, () -> plot.ofEnd(4, 4, 0, 0));
        check.fails("out of range, no border with itself", plot, WRONG, () -> plot.ofEnd(1, 1, 2, 0));
        check.fails("out of range, no border of the same place", plot, WRONG, () -> plot.ofEnd(0, 2, 0, 4));
        check.fails("out of range, no border", plot, WRONG, () -> plot.ofEnd(0, 3, -1, -1));
        check.fails("out of range, a border", plot, WRONG, () -> plot.ofEnd(0, 1, 2, 3));
        check.fails("out of range, a border", plot, WRONG, () -> plot.ofEnd(0, 1, 1, 4));
        check.fails("no border with itself", plot, NO_BORDER, () -> plot.ofEnd(1, 1, 0, 0));
        check.fails("no border of the same place", plot, NO_BORDER, () -> plot.ofEnd(0, 2, 1, 3));
        check.due("a border", plot.ofEnd(0, 1, 1, 3), 1);
        check.promise(15, "no such site, of either");
        check.fails("hasBorder", plot, NO_SITE, () -> plot.hasBorder(0, 4));
        check.fails("hasBorder", plot, NO_SITE, () -> plot.hasBorder(4, 0));
        check.fails("hasBorder of none with itself", plot, NO_SITE, () -> plot.hasBorder(4, 4));
        check.fails("hasBorder of none with itself", plot, NO_SITE, () -> plot.hasBorder(-1, -1));
        check.promise(16, "no such site, of either");
        check.fails("why", plot, NO_SITE, () -> plot.why(0, 4));
        check.fails("why", plot, NO_SITE, () -> plot.why(4, 0));
        check.fails("why of none with itself", plot, NO_SITE, () -> plot.why(4, 4));
        check.fails("why of none with itself", plot, NO_SITE, () -> plot.why(-1, -1));
    }

    private void neighbours() {
        check.promise(18, "none, for one alone");
        check.due("beside", Plot.of(20, 20, 0).beside(0), 0);
        check.promise(18, "none, for all at one place");
        Plot alike = Plot.of(20, 20, 0, 20, 20, 0, 20, 20, 5);
        for (int site = 0; site < 3; site++) {
            check.due("beside of " + site, alike.beside(site), 0);
        }
        check.promise(18, "none, where the box or another leaves no border");
        check.due("beside", Plot.of(0, 0, 0, 1, 0, 2).beside(0), 0);
        Plot hidden = Plot.of(0, 20, 0, 20, 20, -999, 40, 20, 0);
        check.due("beside of one that is hidden", hidden.beside(1), 0);
        check.due("beside of one behind it", hidden.beside(0), 1);
        check.promise(18, "a single point that two share counts for nothing");
        Plot four = Plot.of(0, 0, 0, 40, 0, 0, 0, 40, 0, 40, 40, 0);
        for (int site = 0; site < 4; site++) {
            check.due("beside of " + site, four.beside(site), 2);
        }
        four.weight(0, 1);
        check.due("beside of the heavier", four.beside(0), 3);
        check.due("beside of the one across", four.beside(3), 3);
        check.due("beside of another", four.beside(1), 2);
        check.promise(18, "as many as there may be");
        Plot around = Plot.of(38, 20, 0, 35, 30, 0, 27, 36, 0, 17, 38, 0, 8, 34, 0, 3, 25, 0, 3, 15, 0, 8, 6, 0,
            17, 2, 0, 27, 4, 0, 35, 10, 0, 20, 20, 0);
        check.due("beside of the middle", around.beside(11), 11);
        for (int site = 0; site < 11; site++) {
            check.due("beside of " + site, around.beside(site), 3);
        }
        around.weight(11, -999);
        check.due("beside of the middle, hidden", around.beside(11), 0);
    }
}
