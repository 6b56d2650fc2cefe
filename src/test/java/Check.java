import java.util.Set;
import java.util.TreeSet;

/** Counts the answers that are not as due, and tells each. */
final class Check {
    interface Call {
        void run();
    }

    /** As many calls as a question under test may make. */
    private static final int MOST_ASKED = 40;

    private final String name;
    private final Set<Integer> promises = new TreeSet<>();
    private String ahead = "";
    private int checks = 0;
    private int wrong = 0;

    Check(String name) {
        this.name = name;
    }

    /** What is checked from here on is of this promise, and of this that the document says there or in its terms. */
    void promise(int promise, String sentence) {
        promises.add(promise);
        ahead = "promise " + promise + " (" + sentence + "): ";
    }

    /** Each promise up to this one must have been checked. */
    void coversAllUpTo(int last) {
        ahead = "";
        for (int promise = 1; promise <= last; promise++) {
            due("a test of promise " + promise, promises.contains(promise), true);
        }
    }

    void due(String call, long got, long want) {
        checks++;
        if (got != want) {
            tell(call + " answered " + got + ", due is " + want);
        }
    }

    void due(String call, boolean got, boolean want) {
        checks++;
        if (got != want) {
            tell(call + " answered " + got + ", due is " + want);
        }
    }

    void due(String call, String got, String want) {
        checks++;
        if (!got.equals(want)) {
            tell(call + " answered <" + got + ">, due is <" + want + ">");
        }
    }

    /** The call must throw just this kind of exception, and change nothing of the object. */
    void fails(String what, Plot plot, Class<? extends RuntimeException> kind, Call call) {
        asks(what, plot, () -> {
            Class<?> thrown = null;
            try {
                call.run();
            } catch (RuntimeException e) {
                thrown = e.getClass();
            }
            checks++;
            if (thrown != kind) {
                tell(what + " threw " + thrown + ", due is " + kind);
            }
        });
    }

    /** A question must change nothing of the object. */
    void asks(String what, Plot plot, Call call) {
        String due = Snapshot.all(plot.again());
        plot.room(MOST_ASKED + Snapshot.MOST_CALLS);
        call.run();
        due("the state behind " + what, Snapshot.all(plot), due);
    }

    void end() {
        System.out.println(name + ": " + checks + " checks, " + wrong + " wrong");
        if (wrong != 0 || checks == 0) {
            System.exit(1);
        }
    }

    private void tell(String text) {
        wrong++;
        if (wrong <= 20) {
            System.out.println(name + ": " + ahead + text);
        }
    }
}
