/** Promise 11 (lock), and what locks bar: promises 4 (set), 5 (drop), 18 (play). */
public final class LocksTest {
    private static final Checks c = new Checks("LocksTest");
    private static final long MIN = Long.MIN_VALUE;
    private static final long MAX = Long.MAX_VALUE;

    public static void main(String[] args) {
        refusals();
        areas();
        mostLocks();
        borders();
        placeOfTheSession();
        notBarred();
        wide();
        c.end();
    }

    private static ObjectMerge withSessions(int objects, int n) {
        ObjectMerge x = Checks.withObjects(objects);
        for (int i = 0; i < n; i++) {
            x.session();
        }
        return x;
    }

    private static void refusals() {
        ObjectMerge x = withSessions(1, 2);
        c.refused("session -1", Checks.INDEX, () -> x.lock(-1, 0, 0, 1, 1));
        c.refused("session 2", Checks.INDEX, () -> x.lock(2, 0, 0, 1, 1));
        c.refused("session 2, turned", Checks.INDEX, () -> x.lock(2, 1, 0, 0, 1));
        x.join(0);
        c.refused("joined", Checks.STATE, () -> x.lock(0, 0, 0, 1, 1));
        c.refused("joined, turned", Checks.STATE, () -> x.lock(0, 1, 0, 0, 1));
    }

    private static void areas() {
        ObjectMerge x = withSessions(1, 3);
        c.due("turned along x", x.lock(0, 1, 0, 0, 0), false);
        c.due("turned along y", x.lock(0, 0, 1, 0, 0), false);
        c.due("one place", x.lock(0, 0, 0, 0, 0), true);
        c.due("the same place for another", x.lock(1, 0, 0, 0, 0), false);
        c.due("over it", x.lock(1, -1, -1, 1, 1), false);
        c.due("its own over it", x.lock(0, -1, -1, 1, 1), true);
        c.due("a corner in common", x.lock(1, 1, 1, 5, 5), false);
        c.due("a border in common", x.lock(1, -1, 1, 1, 9), false);
        c.due("beside along x", x.lock(1, 2, -1, 9, 1), true);
        c.due("beside along y", x.lock(2, -1, 2, 1, 9), true);
        c.due("across", x.lock(2, -9, 0, -1, 0), false);
        c.due("join", x.join(0), 0);
        c.due("its locks are gone", x.lock(1, -1, -1, 1, 1), true);
        c.due("the others are not", x.lock(1, 0, 9, 0, 9), false);
    }

    private static void mostLocks() {
        ObjectMerge x = withSessions(1, 3);
        for (int i = 0; i < 10; i++) {
            c.due("lock " + i, x.lock(i % 2, 10 * i, 0, 10 * i + 5, 5), true);
        }
        c.due("no 11th", x.lock(0, 1000, 0, 1000, 0), false);
        c.due("no 11th for another", x.lock(2, 1000, 0, 1000, 0), false);
        c.due("join", x.join(1), 0);
        for (int i = 0; i < 5; i++) {
            c.due("five are free " + i, x.lock(2, 1000 + i, 0, 1000 + i, 0), true);
        }
        c.due("again no 11th", x.lock(2, 2000, 0, 2000, 0), false);
    }

    private static void borders() {
        for (long px = -3; px <= 3; px++) {
            for (long py = -4; py <= 4; py++) {
                ObjectMerge x = withSessions(1, 2);
                x.set(0, 0, 0, px);
                x.set(0, 0, 1, py);
                x.set(1, 0, 0, px);
                x.set(1, 0, 1, py);
                x.lock(1, -2, -3, 2, 3);
                boolean inside = px >= -2 && px <= 2 && py >= -3 && py <= 3;
                String place = " at " + px + ", " + py;
                c.due("the owner sets" + place, x.set(1, 0, 5, 1), true);
                c.due("the other sets" + place, x.set(0, 0, 5, 1), !inside);
                c.due("the other drops" + place, x.drop(0, 0), !inside);
                c.due("the owner drops" + place, x.drop(1, 0), true);
            }
        }
    }

    private static void placeOfTheSession() {
        ObjectMerge x = withSessions(1, 2);
        c.due("lock", x.lock(0, 5, 5, 9, 9), true);
        c.due("set x", x.set(1, 0, 0, 7), true);
        c.due("into the area", x.set(1, 0, 1, 7), true);
        c.due("barred now", x.set(1, 0, 2, 1), false);
        c.due("barred out of it, too", x.set(1, 0, 0, 0), false);
        c.due("not dropped", x.drop(1, 0), false);
        c.due("undo is not barred", x.undo(1), true);
        c.due("out of it", x.set(1, 0, 2, 1), true);
        c.due("the owner sets it into its area", x.set(0, 0, 0, 7) && x.set(0, 0, 1, 7), true);
        c.due("the other has it elsewhere", x.set(1, 0, 2, 2), true);
        c.due("the owner is joined", x.join(0), 0);
        c.due("its lock is gone", x.set(1, 0, 1, 7), true);
        c.due("and bars no more", x.drop(1, 0), true);
    }

    private static void notBarred() {
        ObjectMerge x = withSessions(1, 2);
        x.lock(0, -1, -1, 1, 1);
        c.due("make is not barred", x.make(1, 0), 1);
        c.due("set of it is", x.set(1, 1, 3, 3), false);
        c.refused("a lock hides no wrong object", Checks.INDEX, () -> x.set(1, 2, 3, 3));
        c.refused("nor a missing one", Checks.STATE, () -> x.set(0, 1, 3, 3));
        c.due("play is barred", x.play(5, 20), 0);
        c.due("join is not", x.join(1), 0);
        c.due("made one is there", x.at(1, 3), 0);
    }

    private static void wide() {
        ObjectMerge x = withSessions(1, 2);
        x.set(1, 0, 0, MIN);
        x.set(1, 0, 1, MAX);
        c.due("all there is", x.lock(0, MIN, MIN, MAX, MAX), true);
        c.due("barred at the very edge", x.set(1, 0, 2, 1), false);
        c.due("nothing is left", x.lock(1, MAX, MAX, MAX, MAX), false);
    }
}
