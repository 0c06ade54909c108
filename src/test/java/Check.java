/** Counts the checks of one test program and prints those that do not hold. */
final class Check {
    interface Call {
        void run();
    }

    private int done;
    private int wrong;

    void equal(String what, long got, long want) {
        done++;
        if (got != want) {
            report(what + " answered " + got + ", due is " + want);
        }
    }

    void equal(String what, double got, double want) {
        done++;
        if (got != want) {
            report(what + " answered " + got + ", due is " + want);
        }
    }

    void equal(String what, String got, String want) {
        done++;
        if (!got.equals(want)) {
            report(what + " answered \"" + got + "\", due is \"" + want + "\"");
        }
    }

    void holds(String what, boolean got) {
        done++;
        if (!got) {
            report(what + " does not hold");
        }
    }

    /** A subclass of the wanted exception does not count: the machine's own exceptions are subclasses. */
    void fails(String what, Class<?> wanted, Call call) {
        done++;
        try {
            call.run();
        } catch (RuntimeException e) {
            if (e.getClass() != wanted) {
                report(what + " threw " + e + ", due is " + wanted.getName());
            }
            return;
        }
        report(what + " threw nothing, due is " + wanted.getName());
    }

    void end(String program) {
        System.out.println(program + ": " + done + " checks, " + wrong + " wrong");
        if (wrong != 0 || done == 0) {
            System.exit(1);
        }
    }

    private void report(String text) {
        wrong++;
        System.out.println(text);
    }
}
