import java.util.LinkedHashSet;
import java.util.Set;
import java.util.function.Consumer;
import java.util.function.ObjIntConsumer;
import java.util.function.Supplier;

/** Counts the checks of one test program and prints those that do not hold. */
final class Check {
    interface Call {
        void run();
    }

    private String subject = "";
    private int done;
    private int wrong;

    /** What the next checks are about; it is printed before each that does not hold. */
    void about(String newSubject) {
        subject = newSubject;
    }

    int done() {
        return done;
    }

    void equal(String what, long got, long want) {
        done++;
        if (got != want) {
            report(what + " answered " + got + ", due is " + want);
        }
    }

    void equal(String what, double got, double want) {
        done++;
        if (got != want) {
            report(what + " answered " + got + ", due is " + want);
        }
    }

    void equal(String what, String got, String want) {
        done++;
        if (!got.equals(want)) {
            report(what + " answered \"" + got + "\", due is \"" + want + "\"");
        }
    }

    void holds(String what, boolean got) {
        done++;
        if (!got) {
            report(what + " does not hold");
        }
    }

    /** A subclass of the wanted exception does not count: the machine's own exceptions are subclasses. */
    void fails(String what, Class<?> wanted, Call call) {
        done++;
        try {
            call.run();
        } catch (RuntimeException e) {
            if (e.getClass() != wanted) {
                report(what + " threw " + e + ", due is " + wanted.getName());
            }
            return;
        }
        report(what + " threw nothing, due is " + wanted.getName());
    }

    void returns(String what, Call call) {
        done++;
        try {
            call.run();
        } catch (RuntimeException e) {
            report(what + " threw " + e + ", due is an answer");
        }
    }

    /** The call throws, and all that can be seen afterwards is as it is without the call. */
    void refused(String what, Class<?> wanted, Supplier<LeafMint> made, Consumer<LeafMint> call) {
        refusedAsMade(what, wanted, () -> Mints.busy(made.get()), call);
    }

    /** The same, on a mint whose script buffer, output text and snapshot are not made use of before. */
    void refusedAsMade(String what, Class<?> wanted, Supplier<LeafMint> made, Consumer<LeafMint> call) {
        LeafMint mint = made.get();
        fails(what, wanted, () -> call.accept(mint));
        equal(what + " left behind", Mints.everythingOf(mint), Mints.everythingOf(made.get()));
    }

    /** The numbers from low to high are taken, and all others refused; each call is made on a new mint. */
    void range(String what, Class<?> wanted, int low, int high, Supplier<LeafMint> made,
            ObjIntConsumer<LeafMint> call) {
        for (int number : aroundRange(low, high)) {
            String which = what + " " + number;
            if (number < low || number > high) {
                refused(which, wanted, made, mint -> call.accept(mint, number));
            } else {
                LeafMint mint = Mints.busy(made.get());
                returns(which, () -> call.accept(mint, number));
            }
        }
    }

    /** The ends of a range, a step to each side, and numbers that a cast or a sum would carry back into it. */
    private static Set<Integer> aroundRange(int low, int high) {
        Set<Integer> numbers = new LinkedHashSet<>();
        for (int end : new int[] {low, high}) {
            for (int step = -1; step <= 1; step++) {
                numbers.add(end + step);
            }
            for (int turn : new int[] {1 << 8, 1 << 16, Integer.MIN_VALUE}) {
                numbers.add(end + turn);
                numbers.add(end - turn);
            }
            numbers.add(-end);
        }
        numbers.add(Integer.MIN_VALUE);
        numbers.add(Integer.MAX_VALUE);
        return numbers;
    }

    void end(String program) {
        System.out.println(program + ": " + done + " checks, " + wrong + " wrong");
        if (wrong != 0 || done == 0) {
            System.exit(1);
        }
    }

    void report(String text) {
        wrong++;
        System.out.println(subject + text);
    }
}
