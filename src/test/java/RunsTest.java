import java.util.Random;

/**
 * Runs of 512 mixed calls on one object each, as many as the document promises anything of, against the model: what
 * changes and what is asked take turns, so no answer may be out of date; some arguments are out of their ranges.
 */
public final class RunsTest {
    private static final int RUNS = 240;
    private static final Check check = new Check("RunsTest");

    private final Random random;
    private final Plot plot = new Plot();
    private final Model model = new Model();
    private final int most;
    private final int step;
    private final int spread;

    private RunsTest(int seed) {
        random = new Random(seed);
        most = 1 + seed % 12;
        step = new int[] {1, 2, 5, 10, 20}[seed % 5];
        spread = new int[] {0, 1, 3, 50, 400, 999}[seed % 6];
    }

    public static void main(String[] args) {
        for (int seed = 0; seed < RUNS; seed++) {
            new RunsTest(seed).run();
        }
        check.end();
    }

    private void run() {
        for (int made = 0; made < Plot.MOST_CALLS; made++) {
            Call call = someCall();
            int[] a = new int[call.arguments().length];
            for (int i = 0; i < a.length; i++) {
                a[i] = some(call.arguments()[i]);
            }
            check.promise(call.promise(), "in a run");
            String what = call.text(a) + " behind " + made + " calls, of " + model.snapshot();
            check.due(what, call.got(plot, a), call.due(model, a));
        }
    }

    private Call someCall() {
        int kind = random.nextInt(8);
        if (kind < 2 && model.count < most) {
            return Call.SITE;
        }
        if (kind > 2) {
            return Call.QUESTIONS[random.nextInt(Call.QUESTIONS.length)];
        }
        // With all the sites of this run there, most that are added further are too many.
        return Call.CHANGES[model.count < 12 && random.nextInt(20) > 0 ? 1 + random.nextInt(4) : random.nextInt(5)];
    }

    private int some(Call.Argument argument) {
        if (random.nextInt(40) == 0) {
            int[] edges = argument.edges(model.count);
            return edges[random.nextInt(edges.length)];
        }
        switch (argument) {
            case SITE:
                return random.nextInt(Math.max(1, model.count));
            case PLACE:
                return random.nextInt(11);
            case COORDINATE:
                return random.nextInt(40 / step + 1) * step;
            case WEIGHT:
                return random.nextInt(2 * spread + 1) - spread;
            case CAPACITY:
                return random.nextInt(1682 / Math.max(1, model.count / 2));
            case BY:
                return 1 + random.nextInt(random.nextBoolean() ? 999 : 40);
            default:
                return argument.low + random.nextInt(argument.high - argument.low + 1);
        }
    }
}
