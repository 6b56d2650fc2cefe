/** A method of the face that takes arguments: what they must be, when it is refused all the same, and what is due. */
record Call(int promise, String name, Refusal refusal, OnPlot onPlot, OnModel onModel, Argument... arguments) {
    enum Argument {
        SITE(0, 0), PLACE(0, 0), COORDINATE(0, 40), WEIGHT(-999, 999), CAPACITY(0, 1681), BY(1, 999), TIMES(1, 20),
        WHAT_OF_SITE(0, 5), IS_LAST(0, 1), END(0, 1), WHAT_OF_END(0, 3);

        final int low;
        final int high;

        Argument(int low, int high) {
            this.low = low;
            this.high = high;
        }

        boolean isIndex() {
            return this == SITE || this == PLACE;
        }

        boolean isIn(int value, int count) {
            return this == SITE ? value >= 0 && value < count : this == PLACE ? value >= 0 : value >= low && value <= high;
        }

        /** Just inside and just outside of what it may be, and the ends of int. */
        int[] edges(int count) {
            switch (this) {
                case SITE:
                    return new int[] {Integer.MIN_VALUE, -3, -2, -1, 0, count - 1, count, 12, Integer.MAX_VALUE};
                case PLACE:
                    return new int[] {Integer.MIN_VALUE, -1, 0, 4, 5, 8, 9, 10, Integer.MAX_VALUE};
                case IS_LAST:
                    return new int[] {0, 1};
                default:
                    return new int[] {Integer.MIN_VALUE, low - 1, low, high, high + 1, Integer.MAX_VALUE};
            }
        }
    }

    enum Refusal { NEVER, WHEN_FULL, WHEN_EMPTY, WITHOUT_A_BORDER }

    interface OnPlot {
        long answer(Plot plot, int[] a);
    }

    interface OnModel {
        long answer(Model model, int[] a);
    }

    static final Call SITE = new Call(2, "site", Refusal.WHEN_FULL,
        (plot, a) -> plot.site(a[0], a[1], a[2]),
        (model, a) -> model.add(a[0], a[1], a[2]),
        Argument.COORDINATE, Argument.COORDINATE, Argument.WEIGHT);

    static final Call[] CHANGES = {
        SITE,
        new Call(3, "move", Refusal.NEVER,
            (plot, a) -> moved(plot, a[0], a[1], a[2]),
            (model, a) -> model.move(a[0], a[1], a[2]),
            Argument.SITE, Argument.COORDINATE, Argument.COORDINATE),
        new Call(4, "weight", Refusal.NEVER,
            (plot, a) -> plot.weight(a[0], a[1]),
            (model, a) -> model.tellWeight(a[0], a[1]),
            Argument.SITE, Argument.WEIGHT),
        new Call(5, "capacity", Refusal.NEVER,
            (plot, a) -> plot.capacity(a[0], a[1]),
            (model, a) -> model.tellCapacity(a[0], a[1]),
            Argument.SITE, Argument.CAPACITY),
        new Call(6, "balance", Refusal.WHEN_EMPTY,
            (plot, a) -> plot.balance(a[0], a[1]),
            (model, a) -> model.balance(a[0], a[1]),
            Argument.BY, Argument.TIMES),
    };

    static final Call[] QUESTIONS = {
        new Call(7, "sites", Refusal.NEVER,
            (plot, a) -> plot.sites(),
            (model, a) -> model.count),
        new Call(8, "ofSite", Refusal.NEVER,
            (plot, a) -> plot.ofSite(a[0], a[1]),
            (model, a) -> model.ofSite(a[0], a[1]),
            Argument.SITE, Argument.WHAT_OF_SITE),
        new Call(9, "power", Refusal.NEVER,
            (plot, a) -> plot.power(a[0], a[1], a[2]),
            (model, a) -> model.power(a[0], a[1], a[2]),
            Argument.SITE, Argument.COORDINATE, Argument.COORDINATE),
        new Call(10, "owner", Refusal.NEVER,
            (plot, a) -> plot.owner(a[0], a[1]),
            (model, a) -> model.owner(a[0], a[1]),
            Argument.COORDINATE, Argument.COORDINATE),
        new Call(11, "share", Refusal.NEVER,
            (plot, a) -> plot.share(a[0]),
            (model, a) -> model.shares()[a[0]],
            Argument.SITE),
        new Call(12, "shareAnew", Refusal.NEVER,
            (plot, a) -> plot.shareAnew(a[0]),
            (model, a) -> model.shares()[a[0]],
            Argument.SITE),
        new Call(13, "inRow", Refusal.NEVER,
            (plot, a) -> plot.inRow(a[0], a[1], a[2] == 1),
            (model, a) -> model.row(a[0], a[1])[a[2]],
            Argument.SITE, Argument.COORDINATE, Argument.IS_LAST),
        new Call(14, "isHidden", Refusal.NEVER,
            (plot, a) -> plot.isHidden(a[0]) ? 1 : 0,
            (model, a) -> model.hidden(a[0]) ? 1 : 0,
            Argument.SITE),
        new Call(15, "hasBorder", Refusal.NEVER,
            (plot, a) -> plot.hasBorder(a[0], a[1]) ? 1 : 0,
            (model, a) -> model.cause(a[0], a[1]) == Model.NONE ? 1 : 0,
            Argument.SITE, Argument.SITE),
        new Call(16, "why", Refusal.NEVER,
            (plot, a) -> plot.why(a[0], a[1]),
            (model, a) -> model.cause(a[0], a[1]),
            Argument.SITE, Argument.SITE),
        new Call(17, "ofEnd", Refusal.WITHOUT_A_BORDER,
            (plot, a) -> plot.ofEnd(a[0], a[1], a[2], a[3]),
            (model, a) -> model.ofEnd(a[0], a[1], a[2], a[3]),
            Argument.SITE, Argument.SITE, Argument.END, Argument.WHAT_OF_END),
        new Call(18, "beside", Refusal.NEVER,
            (plot, a) -> plot.beside(a[0]),
            (model, a) -> model.beside(a[0]),
            Argument.SITE),
        new Call(19, "disorder", Refusal.NEVER,
            (plot, a) -> plot.disorder(),
            (model, a) -> model.disorder()),
        new Call(20, "would", Refusal.WHEN_EMPTY,
            (plot, a) -> plot.would(a[0], a[1]),
            (model, a) -> model.would(a[0], a[1]),
            Argument.BY, Argument.TIMES),
        new Call(21, "sign", Refusal.NEVER,
            (plot, a) -> plot.sign(a[0], a[1]),
            (model, a) -> model.sign(a[0], a[1]),
            Argument.SITE, Argument.PLACE),
    };

    private static long moved(Plot plot, int site, int x, int y) {
        plot.move(site, x, y);
        return 0;
    }

    boolean isChange() {
        return promise <= 6;
    }

    /** The answer, or the exception that is named first of those that apply; the model changes as the object must. */
    String due(Model model, int... a) {
        boolean hasNoIndex = false, isOutOfRange = false;
        for (int i = 0; i < a.length; i++) {
            boolean isIn = arguments[i].isIn(a[i], model.count);
            hasNoIndex |= !isIn && arguments[i].isIndex();
            isOutOfRange |= !isIn && !arguments[i].isIndex();
        }
        if (hasNoIndex) {
            return "throws.IndexOutOfBoundsException";
        }
        if (isOutOfRange) {
            return "throws.IllegalArgumentException";
        }
        return isRefused(model, a) ? "throws.IllegalStateException" : String.valueOf(onModel.answer(model, a));
    }

    private boolean isRefused(Model model, int[] a) {
        switch (refusal) {
            case WHEN_FULL:
                return model.count == 12;
            case WHEN_EMPTY:
                return model.count == 0;
            case WITHOUT_A_BORDER:
                return model.cause(a[0], a[1]) != Model.NONE;
            default:
                return false;
        }
    }

    String got(Plot plot, int... a) {
        try {
            return String.valueOf(onPlot.answer(plot, a));
        } catch (RuntimeException e) {
            return "throws." + e.getClass().getSimpleName();
        }
    }

    String text(int... a) {
        StringBuilder text = new StringBuilder(name + "(");
        for (int i = 0; i < a.length; i++) {
            text.append(i == 0 ? "" : ", ").append(a[i]);
        }
        return text.append(")").toString();
    }
}
