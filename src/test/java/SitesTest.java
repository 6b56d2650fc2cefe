/** Promises 1 to 5, 7 to 9 and 21: a new object, what changes sites, and what is told of them. */
public final class SitesTest {
    private static final Class<IndexOutOfBoundsException> NO_SITE = IndexOutOfBoundsException.class;
    private static final Class<IllegalArgumentException> WRONG = IllegalArgumentException.class;
    private static final Class<IllegalStateException> FULL = IllegalStateException.class;
    private static final int LEAST = Integer.MIN_VALUE, MOST = Integer.MAX_VALUE;
    private static final int[] NO_COORDINATES = {-1, 41, LEAST, MOST};
    private static final int[] NO_WEIGHTS = {-1000, 1000, LEAST, MOST};
    private static final Check check = new Check("SitesTest");

    public static void main(String[] args) {
        newObject();
        objectsAreApart();
        addsSites();
        refusesSites();
        movesSites();
        tellsWeights();
        tellsCapacities();
        tellsOfSites();
        tellsPowers();
        tellsSigns();
        check.end();
    }

    private static Plot twoSites() {
        Plot plot = new Plot();
        plot.site(3, 40, -7);
        plot.site(12, 0, 999);
        plot.capacity(1, 25);
        return plot;
    }

    private static void newObject() {
        Plot plot = new Plot();
        check.due("sites of a new object", plot.sites(), 0);
        check.due("disorder of a new object", plot.disorder(), 0);
        for (int x = 0; x <= 40; x++) {
            for (int y = 0; y <= 40; y++) {
                check.due("owner of a new object", plot.owner(x, y), PowerPlot.NONE);
            }
        }
        check.fails("share(0) of a new object", plot, NO_SITE, () -> plot.share(0));
    }

    private static void objectsAreApart() {
        Plot plot = twoSites();
        Plot other = new Plot();
        check.due("sites of another object", other.sites(), 0);
        other.site(1, 1, 1);
        check.due("the first object", Snapshot.of(plot), "2 / 3 40 -7 0 / 12 0 999 25");
    }

    private static void addsSites() {
        Plot plot = new Plot();
        check.due("site", plot.site(0, 0, -999), 0);
        check.due("site", plot.site(40, 40, 999), 1);
        check.due("site", plot.site(0, 40, 0), 2);
        check.due("site at a place once more", plot.site(0, 40, 0), 3);
        check.due("sites", plot.sites(), 4);
        check.due("all of them", Snapshot.of(plot), "4 / 0 0 -999 0 / 40 40 999 0 / 0 40 0 0 / 0 40 0 0");
        for (int site = 4; site < 12; site++) {
            check.due("site", plot.site(site, 2 * site, 3 * site), site);
        }
        check.due("sites", plot.sites(), 12);
        check.fails("a site too many", plot, FULL, () -> plot.site(1, 1, 1));
        check.fails("a site too many, out of range too", plot, WRONG, () -> plot.site(41, 1, 1));
        check.fails("a site too many, its weight out of range", plot, WRONG, () -> plot.site(1, 1, 1000));
        check.due("the last one", Snapshot.text(plot, 11), "11,22+33");
    }

    private static void refusesSites() {
        Plot plot = twoSites();
        for (int wrong : NO_COORDINATES) {
            check.fails("site with x " + wrong, plot, WRONG, () -> plot.site(wrong, 0, 0));
            check.fails("site with y " + wrong, plot, WRONG, () -> plot.site(0, wrong, 0));
        }
        for (int wrong : NO_WEIGHTS) {
            check.fails("site with weight " + wrong, plot, WRONG, () -> plot.site(0, 0, wrong));
        }
    }

    private static void movesSites() {
        Plot plot = twoSites();
        plot.move(0, 40, 0);
        plot.move(1, 0, 40);
        check.due("behind moves", Snapshot.of(plot), "2 / 40 0 -7 0 / 0 40 999 25");
        plot.move(0, 0, 40);
        check.due("moved to one place", Snapshot.of(plot), "2 / 0 40 -7 0 / 0 40 999 25");
        check.due("what was asked then", plot.why(0, 1), PowerPlot.SAME);
        for (int wrong : NO_COORDINATES) {
            check.fails("move with x " + wrong, plot, WRONG, () -> plot.move(1, wrong, 5));
            check.fails("move with y " + wrong, plot, WRONG, () -> plot.move(1, 5, wrong));
            check.fails("move with both wrong", plot, NO_SITE, () -> plot.move(2, 5, wrong));
        }
        for (int none : new int[] {-1, 2, 11, 12, LEAST, MOST}) {
            check.fails("move of site " + none, plot, NO_SITE, () -> plot.move(none, 5, 5));
        }
    }

    private static void tellsWeights() {
        Plot plot = twoSites();
        check.due("weight", plot.weight(0, 999), -7);
        check.due("weight", plot.weight(0, -999), 999);
        check.due("weight, the same", plot.weight(0, -999), -999);
        check.due("weight", plot.weight(1, 0), 999);
        check.due("behind weights", Snapshot.of(plot), "2 / 3 40 -999 0 / 12 0 0 25");
        for (int wrong : NO_WEIGHTS) {
            check.fails("weight " + wrong, plot, WRONG, () -> plot.weight(1, wrong));
            check.fails("weight with both wrong", plot, NO_SITE, () -> plot.weight(-1, wrong));
        }
        for (int none : new int[] {-1, 2, 11, 12, LEAST, MOST}) {
            check.fails("weight of site " + none, plot, NO_SITE, () -> plot.weight(none, 5));
        }
    }

    private static void tellsCapacities() {
        Plot plot = twoSites();
        check.due("capacity", plot.capacity(0, 1681), 0);
        check.due("capacity", plot.capacity(0, 0), 1681);
        check.due("capacity", plot.capacity(1, 26), 25);
        check.due("behind capacities", Snapshot.of(plot), "2 / 3 40 -7 0 / 12 0 999 26");
        for (int wrong : new int[] {-1, 1682, LEAST, MOST}) {
            check.fails("capacity " + wrong, plot, WRONG, () -> plot.capacity(1, wrong));
            check.fails("capacity with both wrong", plot, NO_SITE, () -> plot.capacity(2, wrong));
        }
        for (int none : new int[] {-1, 2, 11, 12, LEAST, MOST}) {
            check.fails("capacity of site " + none, plot, NO_SITE, () -> plot.capacity(none, 5));
        }
    }

    private static void tellsOfSites() {
        Plot plot = twoSites();
        int[] due = {3, 40, -7, 0, 9 + 1600 + 7, plot.shareAnew(0)};
        int[] dueOfOther = {12, 0, 999, 25, 144 - 999, plot.shareAnew(1) - 25};
        for (int what = 0; what < 6; what++) {
            int asked = what;
            check.asks("ofSite " + what, plot, () -> check.due("ofSite 0 " + asked, plot.ofSite(0, asked), due[asked]));
            check.due("ofSite 1 " + what, plot.ofSite(1, what), dueOfOther[what]);
        }
        for (int wrong : new int[] {-1, 6, LEAST, MOST}) {
            check.fails("ofSite what " + wrong, plot, WRONG, () -> plot.ofSite(0, wrong));
            check.fails("ofSite with both wrong", plot, NO_SITE, () -> plot.ofSite(2, wrong));
        }
        for (int none : new int[] {-1, 2, 12, LEAST, MOST}) {
            check.fails("ofSite of site " + none, plot, NO_SITE, () -> plot.ofSite(none, 0));
        }
    }

    private static void tellsPowers() {
        Plot plot = twoSites();
        check.due("power at its place", plot.power(0, 3, 40), 7);
        check.due("power below 0", plot.power(1, 12, 0), -999);
        check.due("power at an end of the box", plot.power(0, 40, 0), 37 * 37 + 1600 + 7);
        check.due("power", plot.power(1, 10, 5), 4 + 25 - 999);
        for (int wrong : NO_COORDINATES) {
            check.fails("power at x " + wrong, plot, WRONG, () -> plot.power(0, wrong, 0));
            check.fails("power at y " + wrong, plot, WRONG, () -> plot.power(0, 0, wrong));
            check.fails("power with both wrong", plot, NO_SITE, () -> plot.power(2, 0, wrong));
        }
        for (int none : new int[] {-1, 2, 12, LEAST, MOST}) {
            check.fails("power of site " + none, plot, NO_SITE, () -> plot.power(none, 0, 0));
        }
    }

    private static void tellsSigns() {
        Plot plot = twoSites();
        plot.site(0, 7, 0);
        plot.site(40, 40, -999);
        plot.site(10, 9, -1);
        String[] texts = {"3,40-7", "12,0+999", "0,7+0", "40,40-999", "10,9-1"};
        for (int site = 0; site < texts.length; site++) {
            for (int place = 0; place < 12; place++) {
                char due = place < texts[site].length() ? texts[site].charAt(place) : ' ';
                check.due("sign " + site + " " + place, plot.sign(site, place), due);
            }
            check.due("sign far behind the end", plot.sign(site, MOST), ' ');
        }
        check.fails("sign at -1", plot, NO_SITE, () -> plot.sign(0, -1));
        check.fails("sign at the least", plot, NO_SITE, () -> plot.sign(0, LEAST));
        for (int none : new int[] {-1, 5, 12, LEAST, MOST}) {
            check.fails("sign of site " + none, plot, NO_SITE, () -> plot.sign(none, 0));
        }
    }
}
