/** Counts the answers that are not as due, and tells each. */
final class Check {
    interface Call {
        void run();
    }

    private final String name;
    private int checks = 0;
    private int wrong = 0;

    Check(String name) {
        this.name = name;
    }

    void due(String call, long got, long want) {
        checks++;
        if (got != want) {
            tell(call + " answered " + got + ", due is " + want);
        }
    }

    void due(String call, boolean got, boolean want) {
        checks++;
        if (got != want) {
            tell(call + " answered " + got + ", due is " + want);
        }
    }

    void due(String call, String got, String want) {
        checks++;
        if (!got.equals(want)) {
            tell(call + " answered <" + got + ">, due is <" + want + ">");
        }
    }

    /** The call must throw just this kind of exception, and change nothing of the object. */
    void fails(String what, PowerPlot plot, Class<? extends RuntimeException> kind, Call call) {
        String before = Snapshot.of(plot);
        Class<?> thrown = null;
        try {
            call.run();
        } catch (RuntimeException e) {
            thrown = e.getClass();
        }
        checks++;
        if (thrown != kind) {
            tell(what + " threw " + thrown + ", due is " + kind);
        }
        due("the state behind " + what, Snapshot.of(plot), before);
    }

    /** A question must change nothing of the object. */
    void asks(String what, PowerPlot plot, Call call) {
        String before = Snapshot.of(plot);
        call.run();
        due("the state behind " + what, Snapshot.of(plot), before);
    }

    void end() {
        System.out.println(name + ": " + checks + " checks, " + wrong + " wrong");
        if (wrong != 0 || checks == 0) {
            System.exit(1);
        }
    }

    private void tell(String text) {
        wrong++;
        if (wrong <= 20) {
            System.out.println(name + ": " + text);
        }
    }
}
