/** What an object holds, as far as calls can change it: all else is worked out from this. */
final class Snapshot {
    static String of(PowerPlot plot) {
        StringBuilder text = new StringBuilder();
        text.append(plot.sites());
        for (int site = 0; site < plot.sites(); site++) {
            for (int what = 0; what < 4; what++) {
                text.append(what == 0 ? " / " : " ").append(plot.ofSite(site, what));
            }
        }
        return text.toString();
    }

    /** The text of a site as its signs tell it, up to the first blank. */
    static String text(PowerPlot plot, int site) {
        StringBuilder text = new StringBuilder();
        for (int place = 0; place < 20 && plot.sign(site, place) != ' '; place++) {
            text.append(plot.sign(site, place));
        }
        return text.toString();
    }

    /** The border as "x top/x bottom,y top/y bottom x top/..", both ends, or its cause. */
    static String border(PowerPlot plot, int site, int other) {
        if (!plot.hasBorder(site, other)) {
            return "none by " + plot.why(site, other);
        }
        StringBuilder text = new StringBuilder();
        for (int end = 0; end < 2; end++) {
            text.append(end == 0 ? "" : " ");
            text.append(plot.ofEnd(site, other, end, 0)).append('/').append(plot.ofEnd(site, other, end, 1)).append(',');
            text.append(plot.ofEnd(site, other, end, 2)).append('/').append(plot.ofEnd(site, other, end, 3));
        }
        return text.toString();
    }
}
