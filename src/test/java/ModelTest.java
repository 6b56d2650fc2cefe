import java.util.Random;

/** All promises against the model, on runs of calls from fixed seeds that seek lines, ties and ends of ranges. */
public final class ModelTest {
    private static final Check check = new Check("ModelTest");
    private static final int[] WEIGHTS = {-999, -998, -100, -50, -1, 0, 0, 0, 1, 7, 50, 200, 998, 999};

    private final Random random;
    private final Plot plot = new Plot();
    private final Model model = new Model();
    private final int least;
    private final int step;
    private final int columns;
    private final int spread;
    private final boolean isOnALine;

    private ModelTest(int seed) {
        random = new Random(seed);
        // Far and near steps from the box's corner, and steps of 1 from anywhere in it.
        int[] steps = {40, 20, 10, 5, 2, 1, 1, 1, 1};
        int[] most = {1, 2, 4, 8, 20, 40, 2, 4, 6};
        step = steps[seed % 9];
        columns = most[seed % 9];
        least = step * columns == 40 ? 0 : random.nextInt(41 - columns);
        spread = seed / 9 % 5;
        isOnALine = seed % 7 == 0;
    }

    public static void main(String[] args) {
        for (int seed = 0; seed < 300; seed++) {
            new ModelTest(seed).run();
        }
        check.end();
    }

    private void run() {
        for (int round = 0; round < 9; round++) {
            for (int call = 0; call < 4; call++) {
                change();
            }
            compareSites();
            compareCells();
            compareBorders();
            compareBalance();
        }
    }

    private int coordinate() {
        return least + random.nextInt(columns + 1) * step;
    }

    private int someWeight() {
        switch (spread) {
            case 0:
                return 0;
            case 1:
                return random.nextInt(5) - 2;
            case 2:
                return WEIGHTS[random.nextInt(WEIGHTS.length)];
            case 3:
                return 100 * (random.nextInt(9) - 4);
            default:
                return random.nextInt(1999) - 999;
        }
    }

    private void change() {
        int kind = random.nextInt(8);
        if (model.count == 0 || kind < 3 && model.count < 12) {
            int x = coordinate(), y = isOnALine ? x : coordinate(), weight = someWeight();
            check.due("site", plot.site(x, y, weight), model.add(x, y, weight));
            return;
        }
        int site = random.nextInt(model.count);
        if (kind < 5) {
            model.x[site] = coordinate();
            model.y[site] = isOnALine ? model.x[site] : coordinate();
            plot.move(site, model.x[site], model.y[site]);
        } else if (kind == 5) {
            int weight = someWeight();
            check.due("weight", plot.weight(site, weight), model.weight[site]);
            model.weight[site] = weight;
        } else if (kind == 6) {
            int capacity = random.nextInt(4) == 0 ? random.nextInt(1682) : random.nextInt(1 + 3362 / model.count) % 1682;
            check.due("capacity", plot.capacity(site, capacity), model.capacity[site]);
            model.capacity[site] = capacity;
        } else {
            int by = 1 + random.nextInt(random.nextBoolean() ? 999 : 60), times = 1 + random.nextInt(20);
            check.due("balance", plot.balance(by, times), model.balance(by, times));
        }
    }

    private void compareSites() {
        check.due("sites", plot.sites(), model.count);
        int[] shares = model.shares();
        for (int site = 0; site < model.count; site++) {
            int[] all = {model.x[site], model.y[site], model.weight[site], model.capacity[site],
                model.height(site), shares[site] - model.capacity[site]};
            for (int what = 0; what < 6; what++) {
                check.due("ofSite " + what, plot.ofSite(site, what), all[what]);
            }
            check.due("text", Snapshot.text(plot, site), model.text(site));
            check.due("share", plot.share(site), shares[site]);
            check.due("shareAnew", plot.shareAnew(site), shares[site]);
            check.due("isHidden", plot.isHidden(site), model.hidden(site));
        }
    }

    private void compareCells() {
        int x = random.nextInt(41), y = random.nextInt(41);
        check.due("owner", plot.owner(x, y), model.owner(x, y));
        for (int site = 0; site < model.count; site++) {
            check.due("power", plot.power(site, x, y), model.power(site, x, y));
            for (int row = 0; row <= 40; row += random.nextInt(2) + 1) {
                int[] due = model.row(site, row);
                check.due("inRow first", plot.inRow(site, row, false), due[0]);
                check.due("inRow last", plot.inRow(site, row, true), due[1]);
                check.due("all between", due[2], 1);
            }
        }
    }

    private void compareBorders() {
        for (int site = 0; site < model.count; site++) {
            int beside = 0;
            for (int other = 0; other < model.count; other++) {
                String due = model.border(site, other);
                check.due("border", Snapshot.border(plot, site, other), due);
                boolean isThere = model.cause(site, other) == Model.NONE;
                check.due("why", plot.why(site, other), model.cause(site, other));
                beside += isThere ? 1 : 0;
            }
            check.due("beside", plot.beside(site), beside);
        }
    }

    private void compareBalance() {
        check.due("disorder", plot.disorder(), model.disorder());
        int by = 1 + random.nextInt(random.nextBoolean() ? 999 : 60), times = 1 + random.nextInt(20);
        int due = model.would(by, times);
        check.asks("would", plot, () -> check.due("would", plot.would(by, times), due));
    }
}
