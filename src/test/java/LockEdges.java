/** Edges of promise 11 (lock), and of what LOCKS bar in promises 4 (set) and 5 (drop). */
final class LockEdges {
    private static final long MIN = Long.MIN_VALUE;
    private static final long MAX = Long.MAX_VALUE;

    static void all(Edges e) {
        e.edge(11, "A LOCK of a session (person) on an area: true", LockEdges::locks);
        e.edge(11, "false, when it is turned (x0 above x1, or y0 above y1)", LockEdges::turned);
        e.edge(11, "has a place in common with one of another session", LockEdges::inCommon);
        e.edge(11, "has a place in common with one of another session", LockEdges::besideEachOther);
        e.edge(11, "of another session", LockEdges::itsOwnMayMeet);
        e.edge(11, "LOCKS, at most 10, are areas of a session", LockEdges::tenLocks);
        e.edge(11, "LOCKS, at most 10, are areas of a session", LockEdges::allTenBar);
        e.edge(11, "or there are 10", LockEdges::noLockLeft);
        e.edge(11, "IndexOutOfBoundsException, when there is no such session", LockEdges::noSession);
        e.edge(11, "IllegalStateException, when it is not OPEN", LockEdges::notOpen);
        e.edge(4, "an object whose PLACE (as another session has it) lies in one, its border too, "
                + "can't be set or dropped by that other session", LockEdges::setBorders);
        e.edge(5, "an object whose PLACE (as another session has it) lies in one, its border too, "
                + "can't be set or dropped by that other session", LockEdges::dropBorders);
        e.edge(4, "as another session has it", LockEdges::asTheOtherHasIt);
        e.edge(4, "The PLACE of an object is its fields 0 and 1, x and y", LockEdges::placeIsXThenY);
        e.edge(4, "can't be set or dropped by that other session", LockEdges::nothingElseIsBarred);
        e.edge(4, "its border too", LockEdges::endsOfLong);
    }

    private static ObjectMerge withSessions(int n) {
        ObjectMerge x = Checks.withObjects(1);
        for (int i = 0; i < n; i++) {
            x.session();
        }
        return x;
    }

    private static void locks(Checks c) {
        ObjectMerge x = withSessions(2);
        c.due("an area", x.lock(0, -5, -5, 5, 5), true);
        c.due("it bars", x.set(1, 0, 2, 1), false);
        c.due("a second one", x.lock(0, 100, 100, 200, 200), true);
        c.due("one of another session", x.lock(1, 50, 50, 60, 60), true);
    }

    private static void turned(Checks c) {
        ObjectMerge x = withSessions(2);
        c.due("along x", x.lock(0, 1, 0, 0, 0), false);
        c.due("along y", x.lock(0, 0, 1, 0, 0), false);
        c.due("along both", x.lock(0, 5, 5, -5, -5), false);
        c.due("as far as can be", x.lock(0, MAX, MIN, MIN, MAX), false);
        c.due("none of them bars", x.set(1, 0, 2, 1), true);
        c.due("one place is not turned", x.lock(0, 0, 0, 0, 0), true);
        c.due("and bars", x.set(1, 0, 2, 2), false);
        for (int i = 1; i < 10; i++) {
            c.due("turned ones do not count " + i, x.lock(0, 0, 0, 0, 0), true);
        }
    }

    private static void inCommon(Checks c) {
        ObjectMerge x = withSessions(2);
        x.lock(0, 10, 20, 30, 40);
        c.due("the very same", x.lock(1, 10, 20, 30, 40), false);
        c.due("one place within", x.lock(1, 15, 25, 15, 25), false);
        c.due("round it", x.lock(1, 0, 0, 99, 99), false);
        c.due("the lower left corner", x.lock(1, 0, 0, 10, 20), false);
        c.due("the upper right corner", x.lock(1, 30, 40, 50, 50), false);
        c.due("the upper left corner", x.lock(1, 0, 40, 10, 50), false);
        c.due("the lower right corner", x.lock(1, 30, 0, 50, 20), false);
        c.due("across along x", x.lock(1, 0, 30, 99, 31), false);
        c.due("across along y", x.lock(1, 20, 0, 21, 99), false);
        ObjectMerge all = withSessions(2);
        all.lock(0, MIN, MIN, MAX, MAX);
        c.due("where all is taken", all.lock(1, MAX, MAX, MAX, MAX), false);
        c.due("where all is taken, at the other end", all.lock(1, MIN, MIN, MIN, MIN), false);
    }

    private static void besideEachOther(Checks c) {
        ObjectMerge x = withSessions(2);
        x.lock(0, 10, 20, 30, 40);
        c.due("left", x.lock(1, 0, 20, 9, 40), true);
        c.due("right", x.lock(1, 31, 20, 40, 40), true);
        c.due("below", x.lock(1, 10, 0, 30, 19), true);
        c.due("above", x.lock(1, 10, 41, 30, 50), true);
        ObjectMerge y = withSessions(2);
        y.lock(0, MIN, MIN, -1, MAX);
        c.due("half of all", y.lock(1, 0, MIN, MAX, MAX), true);
    }

    private static void itsOwnMayMeet(Checks c) {
        ObjectMerge x = withSessions(1);
        c.due("one", x.lock(0, 0, 0, 9, 9), true);
        c.due("the same again", x.lock(0, 0, 0, 9, 9), true);
        c.due("a corner", x.lock(0, 9, 9, 20, 20), true);
    }

    private static void tenLocks(Checks c) {
        ObjectMerge x = withSessions(3);
        for (int i = 0; i < 10; i++) {
            c.due("lock " + i, x.lock(i % 2, 10 * i, 0, 10 * i + 5, 5), true);
        }
        c.due("the 11th of session 0", x.lock(0, 1000, 0, 1000, 0), false);
        c.due("the 11th of session 2", x.lock(2, 1000, 0, 1000, 0), false);
    }

    private static void allTenBar(Checks c) {
        ObjectMerge x = Checks.withObjects(10);
        int s = x.session();
        for (int i = 0; i < 10; i++) {
            x.set(s, i, 0, 10 * i);
        }
        x.join(s);
        int t = x.session();
        int u = x.session();
        for (int i = 0; i < 10; i++) {
            x.lock(t, 10 * i, 0, 10 * i, 0);
        }
        for (int i = 0; i < 10; i++) {
            c.due("lock " + i + " bars", x.set(u, i, 2, 1), false);
        }
        x.join(t);
        for (int i = 0; i < 10; i++) {
            c.due("lock " + i + " is gone", x.set(u, i, 2, 1), true);
            c.due("and its place is free " + i, x.lock(u, 500, i, 500, i), true);
        }
    }

    private static void noLockLeft(Checks c) {
        ObjectMerge x = withSessions(3);
        for (int i = 0; i < 10; i++) {
            x.lock(i % 2, 100 + 10 * i, 0, 105 + 10 * i, 5);
        }
        c.due("false", x.lock(2, 0, 0, 0, 0), false);
        c.due("it bars nothing", x.set(0, 0, 2, 1), true);
        x.join(1);
        for (int i = 0; i < 5; i++) {
            c.due("five are free " + i, x.lock(2, -1 - i, 0, -1 - i, 0), true);
        }
        c.due("no sixth", x.lock(2, -9, 0, -9, 0), false);
    }

    private static void noSession(Checks c) {
        ObjectMerge x = withSessions(0);
        c.refusedOutside("without sessions, session", 0, Checks.INDEX, s -> x.lock(s, 0, 0, 1, 1));
        x.session();
        c.due("the last session", x.lock(x.session(), 0, 0, 1, 1), true);
        c.refusedOutside("session", 2, Checks.INDEX, s -> x.lock(s, 5, 5, 6, 6));
        c.refusedOutside("turned, session", 2, Checks.INDEX, s -> x.lock(s, 6, 5, 5, 6));
    }

    private static void notOpen(Checks c) {
        ObjectMerge x = withSessions(2);
        x.join(0);
        c.refused("joined", Checks.STATE, () -> x.lock(0, 0, 0, 1, 1));
        c.refused("joined, turned", Checks.STATE, () -> x.lock(0, 1, 0, 0, 1));
        c.due("nothing is barred", x.set(1, 0, 2, 1), true);
        for (int i = 0; i < 10; i++) {
            x.lock(1, i, i, i, i);
        }
        c.refused("joined, and ten locks", Checks.STATE, () -> x.lock(0, 90, 90, 91, 91));
    }

    /** Session 0 locks -2, -3 to 2, 3; session 1 has the object at a place that lies there, or not. */
    private static ObjectMerge objectAt(long px, long py) {
        ObjectMerge x = withSessions(2);
        x.set(1, 0, 0, px);
        x.set(1, 0, 1, py);
        x.lock(0, -2, -3, 2, 3);
        return x;
    }

    private static boolean inside(long px, long py) {
        return px >= -2 && px <= 2 && py >= -3 && py <= 3;
    }

    private static void setBorders(Checks c) {
        for (long px = -3; px <= 3; px++) {
            for (long py = -4; py <= 4; py++) {
                ObjectMerge x = objectAt(px, py);
                c.due("set at " + px + ", " + py, x.set(1, 0, 5, 1), !inside(px, py));
            }
        }
    }

    private static void dropBorders(Checks c) {
        for (long px = -3; px <= 3; px++) {
            for (long py = -4; py <= 4; py++) {
                ObjectMerge x = objectAt(px, py);
                c.due("drop at " + px + ", " + py, x.drop(1, 0), !inside(px, py));
            }
        }
    }

    private static void asTheOtherHasIt(Checks c) {
        ObjectMerge x = withSessions(2);
        x.lock(0, 5, 5, 9, 9);
        c.due("the owner sets it into its area", x.set(0, 0, 0, 7) && x.set(0, 0, 1, 7), true);
        c.due("the other has it outside", x.set(1, 0, 2, 1), true);
        c.due("the other sets it there", x.set(1, 0, 0, 5) && x.set(1, 0, 1, 5), true);
        c.due("and is barred now", x.set(1, 0, 2, 2), false);
        c.due("also from setting it back", x.set(1, 0, 0, 0), false);
    }

    private static void placeIsXThenY(Checks c) {
        ObjectMerge x = withSessions(2);
        x.set(1, 0, 0, 7);
        x.set(1, 0, 1, 70);
        x.lock(0, 70, 7, 70, 7);
        c.due("y and x", x.set(1, 0, 5, 1), true);
        x.lock(0, 7, 70, 7, 70);
        c.due("x and y", x.set(1, 0, 5, 2), false);
        ObjectMerge y = withSessions(2);
        for (int f = 2; f < 6; f++) {
            y.set(1, 0, f, 7);
        }
        y.lock(0, 7, 7, 7, 7);
        c.due("other fields are no place", y.set(1, 0, 5, 1), true);
    }

    private static void nothingElseIsBarred(Checks c) {
        ObjectMerge x = withSessions(2);
        x.set(1, 0, 2, 1);
        x.lock(0, 0, 0, 0, 0);
        c.due("undo", x.undo(1), true);
        c.due("make", x.make(1, 0), 1);
        c.due("set of what was made", x.set(1, 1, 2, 1), false);
        c.due("join", x.join(1), 0);
        c.due("mark", x.mark(0, 0), 1);
    }

    private static void endsOfLong(Checks c) {
        ObjectMerge x = withSessions(2);
        x.set(1, 0, 0, MIN);
        x.set(1, 0, 1, MAX);
        x.lock(0, MIN + 1, MIN, MAX, MAX);
        c.due("one beside the area", x.set(1, 0, 2, 1), true);
        x.lock(0, MIN, MAX, MIN, MAX);
        c.due("in the corner of all", x.set(1, 0, 2, 2), false);
        c.due("not dropped either", x.drop(1, 0), false);
    }
}
