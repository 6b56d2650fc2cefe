/** What an object tells of itself, as one text. */
final class Snapshot {
    /** No snapshot takes more calls than this. */
    static final int MOST_CALLS = 200;

    /** The sites as x, y, weight and capacity: what calls can change, as all else is worked out from this. */
    static String of(Plot plot) {
        StringBuilder text = new StringBuilder();
        text.append(plot.sites());
        for (int site = 0; site < plot.sites(); site++) {
            for (int what = 0; what < 4; what++) {
                text.append(what == 0 ? " / " : " ").append(plot.ofSite(site, what));
            }
        }
        return text.toString();
    }

    /** The same, and what is worked out from it: an answer may have been kept and be out of date. */
    static String all(Plot plot) {
        StringBuilder text = new StringBuilder(of(plot));
        int count = plot.sites();
        text.append(" = ").append(plot.disorder()).append(' ').append(plot.owner(20, 20));
        for (int site = 0; site < count; site++) {
            text.append(" / ").append(plot.share(site)).append(plot.isHidden(site) ? "-" : "+").append(plot.beside(site));
            for (int other = site + 1; other < count; other++) {
                text.append(' ').append(plot.why(site, other));
            }
        }
        return text.toString();
    }

    /** The text of a site as its signs tell it, up to the first blank. */
    static String text(Plot plot, int site) {
        StringBuilder text = new StringBuilder();
        for (int place = 0; place < 20; place++) {
            char sign = plot.sign(site, place);
            if (sign == ' ') {
                break;
            }
            text.append(sign);
        }
        return text.toString();
    }

    /** The border as "x top/x bottom,y top/y bottom x top/..", both ends, or its cause. */
    static String border(Plot plot, int site, int other) {
        if (!plot.hasBorder(site, other)) {
            return "none by " + plot.why(site, other);
        }
        StringBuilder text = new StringBuilder();
        for (int end = 0; end < 2; end++) {
            text.append(end == 0 ? "" : " ");
            text.append(plot.ofEnd(site, other, end, 0)).append('/').append(plot.ofEnd(site, other, end, 1)).append(',');
            text.append(plot.ofEnd(site, other, end, 2)).append('/').append(plot.ofEnd(site, other, end, 3));
        }
        return text.toString();
    }
}
