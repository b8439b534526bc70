/** Promises 7 (join), 8 (conflict), 9 (settle). */
public final class JoinTest {
    private static final Checks c = new Checks("JoinTest");

    public static void main(String[] args) {
        refusals();
        unchanged();
        fields();
        sides();
        settledPartly();
        sessionDropped();
        headDropped();
        latestJoin();
        settledStays();
        mostVersions();
        manyConflicts();
        c.end();
    }

    private static void tells(ObjectMerge x, int k, int object, int field, int side) {
        c.due("conflict(" + k + ", 0)", x.conflict(k, 0), object);
        c.due("conflict(" + k + ", 1)", x.conflict(k, 1), field);
        c.due("conflict(" + k + ", 2)", x.conflict(k, 2), side);
    }

    private static void refusals() {
        ObjectMerge x = Checks.withObjects(1);
        c.refused("join of no session", Checks.INDEX, () -> x.join(0));
        c.refused("conflict before a join", Checks.INDEX, () -> x.conflict(0, 0));
        c.refused("settle before a join", Checks.INDEX, () -> x.settle(0, 0));
        c.refused("settle before a join, no side", Checks.INDEX, () -> x.settle(0, 2));
        int s = x.session();
        c.refused("join of session -1", Checks.INDEX, () -> x.join(-1));
        c.refused("join of session 1", Checks.INDEX, () -> x.join(1));
        c.due("join", x.join(s), 0);
        c.refused("join again", Checks.STATE, () -> x.join(s));
        c.refused("no conflict", Checks.INDEX, () -> x.conflict(0, 0));
    }

    private static void unchanged() {
        ObjectMerge x = Checks.withObjects(1);
        int s = x.session();
        int t = x.session();
        int u = x.session();
        c.due("join of nothing", x.join(s), 0);
        c.due("a new version all the same", x.version(), 2);
        c.due("without a difference", x.difference(1, 2, 0), -1);
        x.set(t, 0, 2, 5);
        x.join(t);
        x.set(u, 0, 2, 6);
        x.set(u, 0, 2, 0);
        c.due("set and set back is no change", x.join(u), 0);
        c.due("the head keeps its value", x.at(0, 2), 5);
        int w = x.session();
        int v = x.session();
        x.drop(w, 0);
        x.join(w);
        x.set(v, 0, 2, 8);
        x.undo(v);
        c.due("set and undone is no change", x.join(v), 0);
        c.refused("the head has it no more", Checks.STATE, () -> x.at(0, 2));
    }

    private static void fields() {
        ObjectMerge x = Checks.withObjects(3);
        int s = x.session();
        int t = x.session();
        x.set(s, 0, 0, 1);
        x.set(s, 0, 1, 2);
        x.set(s, 2, 5, 3);
        x.set(s, 1, 3, 4);
        x.set(t, 0, 0, 1);
        x.set(t, 0, 1, 20);
        x.set(t, 0, 2, 30);
        x.set(t, 2, 5, 40);
        x.set(t, 1, 4, 50);
        c.due("join", x.join(s), 0);
        c.due("two conflicts", x.join(t), 2);
        c.due("no version", x.version(), 4);
        tells(x, 0, 0, 1, -1);
        tells(x, 1, 2, 5, -1);
        c.refused("no third", Checks.INDEX, () -> x.conflict(2, 0));
        c.refused("no conflict -1", Checks.INDEX, () -> x.conflict(-1, 0));
        c.refused("what 3", Checks.INDEX, () -> x.conflict(0, 3));
        c.refused("what -1", Checks.INDEX, () -> x.conflict(0, -1));
        c.due("nothing changed", x.at(0, 2), 0);
        c.due("open still", x.set(t, 0, 2, 31), true);
        c.due("settle the first", x.settle(0, 0), true);
        c.due("settle the second", x.settle(1, 1), true);
        c.due("joined", x.join(t), 0);
        c.due("alike", x.at(0, 0), 1);
        c.due("side 0", x.at(0, 1), 2);
        c.due("not in conflict", x.at(0, 2), 31);
        c.due("side 1", x.at(2, 5), 40);
        c.due("the head's own", x.at(1, 3), 4);
        c.due("the session's own", x.at(1, 4), 50);
        tells(x, 0, 0, 1, 0);
        tells(x, 1, 2, 5, 1);
        c.refused("closed", Checks.STATE, () -> x.settle(0, 1));
        c.refused("closed, no side", Checks.STATE, () -> x.settle(0, 2));
        c.refused("closed, no such conflict", Checks.INDEX, () -> x.settle(2, 1));
    }

    private static void sides() {
        ObjectMerge x = Checks.withObjects(1);
        int s = x.session();
        int t = x.session();
        x.set(s, 0, 0, 1);
        x.set(t, 0, 0, 2);
        x.join(s);
        c.due("a conflict", x.join(t), 1);
        c.refused("side 2", Checks.ARGUMENT, () -> x.settle(0, 2));
        c.refused("side -1", Checks.ARGUMENT, () -> x.settle(0, -1));
        c.refused("no such conflict", Checks.INDEX, () -> x.settle(1, 2));
        c.refused("conflict -1", Checks.INDEX, () -> x.settle(-1, 0));
        tells(x, 0, 0, 0, -1);
        c.due("settle 0", x.settle(0, 0), true);
        tells(x, 0, 0, 0, 0);
        c.due("settle 0 again", x.settle(0, 0), false);
        c.due("settle 1", x.settle(0, 1), true);
        tells(x, 0, 0, 0, 1);
        c.due("settle 1 again", x.settle(0, 1), false);
        c.due("settle 0 anew", x.settle(0, 0), true);
        c.due("join", x.join(t), 0);
        c.due("side 0", x.at(0, 0), 1);
    }

    private static void settledPartly() {
        ObjectMerge x = Checks.withObjects(1);
        int s = x.session();
        int t = x.session();
        for (int f = 0; f < 6; f++) {
            x.set(s, 0, f, 1 + f);
            x.set(t, 0, f, 11 + f);
        }
        x.join(s);
        c.due("six", x.join(t), 6);
        x.settle(4, 1);
        c.due("five are left", x.join(t), 5);
        tells(x, 4, 0, 4, 1);
        tells(x, 5, 0, 5, -1);
        c.due("nothing changed", x.at(0, 4), 5);
        c.due("version", x.version(), 2);
    }

    private static void sessionDropped() {
        ObjectMerge x = Checks.withObjects(3);
        int s = x.session();
        int t = x.session();
        int u = x.session();
        x.drop(s, 0);
        x.set(s, 1, 4, 9);
        x.join(s);
        x.drop(t, 0);
        x.drop(t, 1);
        x.drop(t, 2);
        c.due("dropped in both, one changed, one alike", x.join(t), 1);
        tells(x, 0, 1, 6, -1);
        x.settle(0, 1);
        c.due("side 1: it goes", x.join(t), 0);
        c.refused("object 0", Checks.STATE, () -> x.at(0, 0));
        c.refused("object 1", Checks.STATE, () -> x.at(1, 0));
        c.refused("object 2", Checks.STATE, () -> x.at(2, 0));
        c.due("the last session joins", x.join(u), 0);

        ObjectMerge y = Checks.withObjects(1);
        int a = y.session();
        int b = y.session();
        y.set(a, 0, 4, 9);
        y.join(a);
        y.drop(b, 0);
        c.due("conflict 6", y.join(b), 1);
        y.settle(0, 0);
        c.due("side 0: it stays", y.join(b), 0);
        c.due("as the head has it", y.at(0, 4), 9);

        ObjectMerge z = Checks.withObjects(1);
        int p = z.session();
        int q = z.session();
        z.set(p, 0, 4, 9);
        z.join(p);
        int r = z.session();
        z.set(r, 0, 4, 0);
        z.join(r);
        z.drop(q, 0);
        c.due("the head is as the base again", z.join(q), 0);
        c.refused("dropped", Checks.STATE, () -> z.at(0, 4));
    }

    private static void headDropped() {
        ObjectMerge x = Checks.withObjects(2);
        int s = x.session();
        int t = x.session();
        int u = x.session();
        int w = x.session();
        x.drop(s, 0);
        x.join(s);
        x.set(t, 0, 0, 1);
        x.set(t, 0, 5, 2);
        x.set(t, 1, 1, 3);
        c.due("one conflict, not one a field", x.join(t), 1);
        tells(x, 0, 0, 6, -1);
        x.settle(0, 0);
        c.due("side 0: it is away", x.join(t), 0);
        c.refused("away", Checks.STATE, () -> x.at(0, 0));
        c.due("the other one is taken", x.at(1, 1), 3);
        x.set(u, 0, 3, 4);
        c.due("conflict 6 again", x.join(u), 1);
        x.settle(0, 1);
        c.due("side 1: it is back", x.join(u), 0);
        c.due("all that the session has", x.at(0, 3), 4);
        c.due("and no more", x.at(0, 5), 0);
        c.due("not the other one", x.at(1, 1), 3);
        x.set(w, 0, 3, 7);
        c.due("then a field again", x.join(w), 1);
        tells(x, 0, 0, 3, -1);
    }

    private static void latestJoin() {
        ObjectMerge x = Checks.withObjects(2);
        int s = x.session();
        int t = x.session();
        int u = x.session();
        x.set(s, 0, 0, 1);
        x.set(s, 1, 1, 1);
        x.join(s);
        x.set(t, 0, 0, 2);
        x.set(u, 1, 1, 2);
        c.due("conflict of t", x.join(t), 1);
        tells(x, 0, 0, 0, -1);
        c.due("conflict of u", x.join(u), 1);
        tells(x, 0, 1, 1, -1);
        c.due("settled for u", x.settle(0, 1), true);
        c.refused("a join that throws", Checks.STATE, () -> x.join(s));
        tells(x, 0, 1, 1, 1);
        x.set(u, 1, 1, 5);
        tells(x, 0, 1, 1, 1);
        c.due("conflict of t again", x.join(t), 1);
        tells(x, 0, 0, 0, -1);
        c.due("u is joined", x.join(u), 0);
        c.due("by side 1, as set last", x.at(1, 1), 5);
        tells(x, 0, 1, 1, 1);
        c.due("t again", x.join(t), 1);
        c.due("play joins, too", x.play(1, 0), 0);
        c.refused("so there is none", Checks.INDEX, () -> x.conflict(0, 0));
        c.refused("none to settle", Checks.INDEX, () -> x.settle(0, 0));
        c.refused("play that throws", Checks.ARGUMENT, () -> x.play(1, 101));
    }

    private static void settledStays() {
        ObjectMerge x = Checks.withObjects(1);
        int s = x.session();
        int t = x.session();
        x.set(s, 0, 0, 1);
        x.join(s);
        x.set(t, 0, 0, 2);
        x.set(t, 0, 1, 3);
        x.join(t);
        x.settle(0, 1);
        int u = x.session();
        x.set(u, 0, 1, 4);
        x.join(u);
        c.due("one conflict came in between", x.join(t), 1);
        tells(x, 0, 0, 0, 1);
        tells(x, 1, 0, 1, -1);
        int w = x.session();
        x.drop(w, 0);
        x.join(w);
        c.due("the whole object is another conflict", x.join(t), 1);
        tells(x, 0, 0, 6, -1);
    }

    private static void mostVersions() {
        ObjectMerge x = Checks.withObjects(1);
        int s = x.session();
        int t = x.session();
        x.set(s, 0, 0, 1);
        x.set(t, 0, 0, 2);
        x.join(s);
        c.due("conflict", x.join(t), 1);
        for (int v = 3; v < 40; v++) {
            x.object(0);
        }
        c.due("40 versions", x.version(), 39);
        int u = x.session();
        c.due("NONE", x.join(u), -1);
        c.due("NONE with a conflict, too", x.join(t), -1);
        tells(x, 0, 0, 0, -1);
        c.due("of t still", x.settle(0, 1), true);
        c.due("NONE still", x.join(t), -1);
        c.due("NONE of play", x.play(3, 10), -1);
        tells(x, 0, 0, 0, 1);
        c.due("open still", x.set(u, 0, 0, 8), true);
        c.due("no session was spent", x.session(), 3);
        c.refused("joined before", Checks.STATE, () -> x.join(s));
        c.refused("no session", Checks.INDEX, () -> x.join(4));
    }

    private static void manyConflicts() {
        ObjectMerge x = new ObjectMerge();
        int s = x.session();
        for (int i = 0; i < 60; i++) {
            x.make(s, 0);
        }
        x.join(s);
        int t = x.session();
        int u = x.session();
        for (int i = 0; i < 60; i++) {
            for (int f = 3; f < 6; f++) {
                x.set(t, i, f, 1);
                x.set(u, i, f, 2);
            }
        }
        c.due("join", x.join(t), 0);
        c.due("180 conflicts", x.join(u), 180);
        tells(x, 0, 0, 3, -1);
        tells(x, 179, 59, 5, -1);
        c.refused("no more", Checks.INDEX, () -> x.conflict(180, 0));
    }
}
