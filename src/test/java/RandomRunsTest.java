import java.util.Random;
import java.util.concurrent.Callable;

/** All promises: drawn runs of 512 calls, each answer against that of the plain model. */
public final class RandomRunsTest {
    private static final int RUNS = 3000;
    private static final long[] EDGES = {
        Long.MIN_VALUE, Long.MIN_VALUE + 1, -1000000000L, -1, 0, 1, 1000000000L, Long.MAX_VALUE - 1, Long.MAX_VALUE,
    };
    private static final Checks c = new Checks("RandomRunsTest");

    /** How a run draws: its calls lean to few or many objects, versions and sessions, narrow or wide values. */
    private final Random random;
    private final boolean slow;
    private final boolean wide;
    private final ObjectMerge x = new ObjectMerge();
    private final PlainModel y = new PlainModel();
    private int objects;
    private int sessions;

    private RandomRunsTest(long seed) {
        random = new Random(seed);
        slow = random.nextBoolean();
        wide = random.nextInt(4) == 0;
    }

    public static void main(String[] args) {
        for (int run = 0; run < RUNS; run++) {
            RandomRunsTest r = new RandomRunsTest(run);
            for (int call = 0; call < 512; call++) {
                if (!r.ask("run " + run + ", call " + call + ": ")) {
                    break;
                }
            }
        }
        c.end();
    }

    private static String answer(Callable<Object> call) {
        try {
            return String.valueOf(call.call());
        } catch (Exception e) {
            return e.getClass().getSimpleName();
        }
    }

    private boolean same(String what, Callable<Object> got, Callable<Object> want) {
        String due = answer(want);
        String answered = answer(got);
        c.due(what, answered.equals(due), true);
        if (!answered.equals(due)) {
            c.tell(what + " answered " + answered + ", the model " + due);
        }
        return answered.equals(due);
    }

    /** Mostly 0 .. n - 1, at times a little outside. */
    private int number(int n) {
        return random.nextInt(12) == 0 || n == 0 ? random.nextInt(n + 4) - 2 : random.nextInt(n);
    }

    private int object() {
        return number(slow ? Math.min(objects, 3) : objects);
    }

    private int session() {
        return random.nextInt(3) == 0 ? number(sessions) : Math.max(0, sessions - 1 - random.nextInt(4));
    }

    private long value() {
        return wide && random.nextInt(3) == 0 ? EDGES[random.nextInt(EDGES.length)] : random.nextInt(4);
    }

    private boolean ask(String at) {
        int s = session();
        int o = object();
        int o2 = object();
        int f = number(6);
        int k = number(5);
        long v = value();
        int kind = random.nextInt(100);
        if (kind < 3 || objects == 0) {
            int n = number(10);
            objects = Math.min(60, objects + 1);
            return same(at + "object " + n, () -> x.object(n), () -> y.object(n));
        } else if (kind < (slow ? 8 : 12)) {
            sessions = Math.min(20, sessions + 1);
            return same(at + "session", () -> x.session(), () -> y.session());
        } else if (kind < 38) {
            return same(at + "set " + s + " " + o + " " + f + " " + v,
                    () -> x.set(s, o, f, v), () -> y.set(s, o, f, v));
        } else if (kind < 42) {
            return same(at + "drop " + s + " " + o, () -> x.drop(s, o), () -> y.drop(s, o));
        } else if (kind < 45) {
            int n = number(10);
            objects = Math.min(60, objects + (slow ? 0 : 1));
            return same(at + "make " + s + " " + n, () -> x.make(s, n), () -> y.make(s, n));
        } else if (kind < 51) {
            return same(at + "join " + s, () -> x.join(s), () -> y.join(s));
        } else if (kind < 57) {
            int what = number(3);
            return same(at + "conflict " + k + " " + what, () -> x.conflict(k, what), () -> y.conflict(k, what));
        } else if (kind < 64) {
            int side = number(2);
            return same(at + "settle " + k + " " + side, () -> x.settle(k, side), () -> y.settle(k, side));
        } else if (kind < 70) {
            return same(at + "at " + o + " " + f, () -> x.at(o, f), () -> y.at(o, f));
        }
        return askMore(at, kind, s, o, o2, k);
    }

    private boolean askMore(String at, int kind, int s, int o, int o2, int k) {
        if (kind < 73) {
            long x0 = value();
            long y0 = value();
            long x1 = x0 + random.nextInt(3) - (random.nextInt(8) == 0 ? 1 : 0);
            long y1 = wide ? value() : y0 + random.nextInt(2);
            return same(at + "lock " + s, () -> x.lock(s, x0, y0, x1, y1), () -> y.lock(s, x0, y0, x1, y1));
        } else if (kind < 76) {
            long d = wide ? EDGES[random.nextInt(EDGES.length)] : random.nextInt(8) - 1;
            return same(at + "apart " + o + " " + o2 + " " + d, () -> x.apart(o, o2, d), () -> y.apart(o, o2, d));
        } else if (kind < 80) {
            int which = number(2);
            return same(at + "violation " + k + " " + which, () -> x.violation(k, which), () -> y.violation(k, which));
        } else if (kind < 81) {
            return same(at + "version", () -> x.version(), () -> y.version());
        } else if (kind < 86) {
            int a = number(y.version() + 1);
            int b = number(y.version() + 1);
            return same(at + "difference " + a + " " + b + " " + k,
                    () -> x.difference(a, b, k), () -> y.difference(a, b, k));
        } else if (kind < 92) {
            return same(at + "undo " + s, () -> x.undo(s), () -> y.undo(s));
        } else if (kind < 94) {
            int a = number(y.version() + 1);
            sessions = Math.min(20, sessions + 1);
            return same(at + "branch " + a, () -> x.branch(a), () -> y.branch(a));
        } else if (kind < 95) {
            long seed = random.nextLong();
            int turns = number(101);
            sessions = Math.min(20, sessions + 1);
            return same(at + "play " + seed + " " + turns, () -> x.play(seed, turns), () -> y.play(seed, turns));
        }
        int person = number(32);
        return same(at + "mark " + o + " " + person, () -> x.mark(o, person), () -> y.mark(o, person));
    }
}
