/**
 * The edges that the document names, promise by promise. Here: each argument of each method just inside and just outside
 * of its range, all of them together, with no site, one, two, and as many as there may be; what more there is of each
 * promise stands in the classes of edges that are run from here.
 */
public final class EdgesTest {
    private static final Check check = new Check("EdgesTest");
    private static final int[][] SCENES = {
        {},
        {0, 0, -999, 0},
        {10, 20, 0, 1681, 30, 20, 40, 0},
        {20, 20, 300, 900, 0, 0, -999, 5, 40, 40, 999, 0, 0, 40, 0, 100, 40, 0, 0, 77, 20, 20, 300, 3,
            20, 20, 299, 0, 10, 20, 0, 400, 30, 20, 0, 9, 20, 10, 0, 1681, 20, 30, -7, 0, 21, 20, 250, 50},
    };

    public static void main(String[] args) {
        for (int[] scene : SCENES) {
            for (Call call : Call.CHANGES) {
                allEdges(scene, call);
            }
            for (Call call : Call.QUESTIONS) {
                allEdges(scene, call);
            }
        }
        new SitesEdges(check).run();
        new CellsEdges(check).run();
        new BorderEdges(check).run();
        new BalanceEdges(check).run();
        check.coversAllUpTo(21);
        check.end();
    }

    private static void allEdges(int[] scene, Call call) {
        Model model = new Model();
        for (int i = 0; i < scene.length; i += 4) {
            model.tellCapacity(model.add(scene[i], scene[i + 1], scene[i + 2]), scene[i + 3]);
        }
        check.promise(call.promise(), "the edges of its arguments, with " + model.count + " sites");
        allEdges(Plot.withCapacities(scene), model, call, new int[call.arguments().length], 0);
    }

    /** The arguments ahead of this one are chosen. */
    private static void allEdges(Plot plot, Model model, Call call, int[] a, int next) {
        if (next == a.length) {
            edge(plot, model.copy(), call, a);
            return;
        }
        for (int value : call.arguments()[next].edges(model.count)) {
            a[next] = value;
            allEdges(plot, model, call, a, next + 1);
        }
    }

    private static void edge(Plot plot, Model model, Call call, int[] a) {
        String due = call.due(model, a);
        if (call.isChange() && !due.startsWith("throws")) {
            Plot changed = plot.again();
            check.due(call.text(a), call.got(changed, a), due);
            check.due("what stands behind " + call.text(a), Snapshot.of(changed), model.snapshot());
        } else {
            check.asks(call.text(a), plot, () -> check.due(call.text(a), call.got(plot, a), due));
        }
    }
}
