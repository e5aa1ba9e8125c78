/** Compares answers with what is due, and ends the program with 1 if one was not. */
final class Check {
    interface Call {
        long answer();
    }

    interface Deed {
        void run();
    }

    private int looked = 0;
    private int wrong = 0;

    void due(String what, long want, long got) {
        looked++;
        if (got != want) {
            report(what, "answered " + got + ", due is " + want);
        }
    }

    void due(String what, boolean want, boolean got) {
        due(what, want ? 1 : 0, got ? 1 : 0);
    }

    void refuses(String what, Class<? extends RuntimeException> kind, Deed deed) {
        looked++;
        try {
            deed.run();
        } catch (RuntimeException e) {
            if (e.getClass() != kind) {
                report(what, "threw " + e.getClass().getName() + ", due is " + kind.getName());
            }
            return;
        }
        report(what, "threw nothing, due is " + kind.getName());
    }

    void badArgument(String what, Deed deed) {
        refuses(what, IllegalArgumentException.class, deed);
    }

    void badState(String what, Deed deed) {
        refuses(what, IllegalStateException.class, deed);
    }

    private void report(String what, String how) {
        wrong++;
        System.out.println(what + " " + how);
    }

    void end() {
        System.out.println(looked + " answers looked at, " + wrong + " wrong");
        if (wrong != 0) {
            System.exit(1);
        }
    }
}
