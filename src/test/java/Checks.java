import java.util.function.IntConsumer;

/** Counts and tells the answers of one test that are not as due; end() closes it. */
final class Checks {
    static final Class<? extends RuntimeException> INDEX = IndexOutOfBoundsException.class;
    static final Class<? extends RuntimeException> STATE = IllegalStateException.class;
    static final Class<? extends RuntimeException> ARGUMENT = IllegalArgumentException.class;

    private final String test;
    private int asked;
    private int wrong;

    Checks(String test) {
        this.test = test;
    }

    static ObjectMerge withObjects(int n) {
        ObjectMerge x = new ObjectMerge();
        for (int i = 0; i < n; i++) {
            x.object(i % 10);
        }
        return x;
    }

    void due(String what, long got, long want) {
        asked++;
        if (got != want) {
            tell(what + " answered " + got + ", due is " + want);
        }
    }

    void due(String what, boolean got, boolean want) {
        asked++;
        if (got != want) {
            tell(what + " answered " + got + ", due is " + want);
        }
    }

    /** The very class is asked for: a class below it would have come from the machine. */
    void refused(String what, Class<? extends RuntimeException> want, Runnable call) {
        asked++;
        try {
            call.run();
            tell(what + " threw nothing, due is " + want.getSimpleName());
        } catch (RuntimeException e) {
            if (e.getClass() != want) {
                tell(what + " threw " + e.getClass().getSimpleName() + ", due is " + want.getSimpleName());
            }
        }
    }

    /** The numbers on both sides of 0 .. n - 1, and both ends of int. */
    void refusedOutside(String what, int n, Class<? extends RuntimeException> want, IntConsumer call) {
        for (int i : new int[] {-1, n, Integer.MIN_VALUE, Integer.MAX_VALUE}) {
            refused(what + " " + i, want, () -> call.accept(i));
        }
    }

    int asked() {
        return asked;
    }

    int wrong() {
        return wrong;
    }

    void tell(String fault) {
        wrong++;
        System.out.println(test + ": " + fault);
    }

    void end() {
        System.out.println(test + ": " + asked + " answers asked for, " + wrong + " not as due");
        if (wrong != 0 || asked == 0) {
            System.exit(1);
        }
    }
}
