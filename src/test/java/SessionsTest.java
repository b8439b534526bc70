/** Promises 3 (session), 4 (set), 5 (drop), 6 (make), 16 (undo), 17 (branch). */
public final class SessionsTest {
    private static final Checks c = new Checks("SessionsTest");

    public static void main(String[] args) {
        mostSessions();
        set();
        drop();
        make();
        undo();
        undoLatestForty();
        undoBehindUndo();
        branch();
        c.end();
    }

    private static void mostSessions() {
        ObjectMerge x = Checks.withObjects(1);
        for (int i = 0; i < 20; i++) {
            c.due("session " + i, i % 2 == 0 ? x.session() : x.branch(0), i);
        }
        c.due("no 21st", x.session(), -1);
        c.due("no 21st branch", x.branch(0), -1);
        c.refused("branch of no version", Checks.INDEX, () -> x.branch(2));
        c.due("no 21st played", x.play(1, 5), -1);
        c.due("join of session 0", x.join(0), 0);
        c.due("joined ones count, too", x.session(), -1);
        c.due("session 18 is there", x.set(18, 0, 0, 1), true);
        c.refused("session 20", Checks.INDEX, () -> x.set(20, 0, 0, 1));
    }

    private static void set() {
        ObjectMerge x = Checks.withObjects(2);
        int s = x.session();
        int t = x.session();
        c.due("set", x.set(s, 0, 0, 4), true);
        c.due("set the same", x.set(s, 0, 0, 4), false);
        c.due("set 0 where 0 is", x.set(s, 0, 5, 0), false);
        c.due("set field 5", x.set(s, 0, 5, -4), true);
        c.due("another session has its own", x.set(t, 0, 0, 4), true);
        c.due("back to what the base has", x.set(t, 0, 0, 0), true);
        c.refused("session -1", Checks.INDEX, () -> x.set(-1, 0, 0, 1));
        c.refused("session 2", Checks.INDEX, () -> x.set(2, 0, 0, 1));
        c.refused("object -1", Checks.INDEX, () -> x.set(s, -1, 0, 1));
        c.refused("object 2", Checks.INDEX, () -> x.set(s, 2, 0, 1));
        c.refused("field -1", Checks.INDEX, () -> x.set(s, 0, -1, 1));
        c.refused("field 6", Checks.INDEX, () -> x.set(s, 0, 6, 1));
        x.object(3);
        c.refused("an object behind its base", Checks.STATE, () -> x.set(s, 2, 0, 1));
        c.refused("the same, field 6", Checks.INDEX, () -> x.set(s, 2, 6, 1));
        int made = x.make(t, 1);
        c.refused("an object of another session", Checks.STATE, () -> x.set(s, made, 0, 1));
        c.due("an object of its own", x.set(t, made, 0, 1), true);
        x.join(s);
        c.refused("joined", Checks.STATE, () -> x.set(s, 0, 0, 9));
        c.refused("joined, the value it has", Checks.STATE, () -> x.set(s, 0, 0, 4));
        c.refused("joined, no such object", Checks.INDEX, () -> x.set(s, 99, 0, 9));
        c.refused("joined, no such field", Checks.INDEX, () -> x.set(s, 0, 9, 9));
        c.due("joined value", x.at(0, 0), 4);
        c.due("joined value, field 5", x.at(0, 5), -4);
    }

    private static void drop() {
        ObjectMerge x = Checks.withObjects(2);
        int s = x.session();
        int t = x.session();
        c.due("drop", x.drop(s, 0), true);
        c.refused("drop again", Checks.STATE, () -> x.drop(s, 0));
        c.refused("set a dropped one", Checks.STATE, () -> x.set(s, 0, 0, 1));
        c.due("another session has it", x.set(t, 1, 0, 1), true);
        c.refused("session -1", Checks.INDEX, () -> x.drop(-1, 0));
        c.refused("session 2", Checks.INDEX, () -> x.drop(2, 0));
        c.refused("object 2", Checks.INDEX, () -> x.drop(s, 2));
        c.refused("object -1", Checks.INDEX, () -> x.drop(s, -1));
        c.due("join", x.join(s), 0);
        c.refused("joined", Checks.STATE, () -> x.drop(s, 1));
        c.refused("joined, object 2", Checks.INDEX, () -> x.drop(s, 2));
        c.refused("dropped in the head", Checks.STATE, () -> x.at(0, 0));
        c.due("the other one is there", x.at(1, 0), 0);
        int u = x.session();
        c.refused("a later session has it not", Checks.STATE, () -> x.drop(u, 0));
        int made = x.make(u, 0);
        c.due("drop a made one", x.drop(u, made), true);
        c.due("join as if not made", x.join(u), 0);
        c.refused("as if not made", Checks.STATE, () -> x.at(made, 0));
        c.due("no difference", x.difference(x.version() - 1, x.version(), 0), -1);
    }

    private static void make() {
        ObjectMerge x = Checks.withObjects(1);
        int s = x.session();
        int t = x.session();
        c.due("make", x.make(s, 0), 1);
        c.due("numbers go on over sessions", x.make(t, 9), 2);
        c.due("numbers go on for object()", x.object(5), 3);
        c.due("no version for make", x.version(), 2);
        c.refused("session -1", Checks.INDEX, () -> x.make(-1, 0));
        c.refused("session 2", Checks.INDEX, () -> x.make(2, 0));
        c.refused("kind 10", Checks.ARGUMENT, () -> x.make(s, 10));
        c.refused("kind -1", Checks.ARGUMENT, () -> x.make(s, -1));
        c.refused("session before kind", Checks.INDEX, () -> x.make(2, 10));
        c.due("set a made one", x.set(s, 1, 2, 8), true);
        c.due("join", x.join(s), 0);
        c.due("made one joined", x.at(1, 2), 8);
        c.refused("the other is not joined", Checks.STATE, () -> x.at(2, 2));
        c.refused("joined", Checks.STATE, () -> x.make(s, 0));
        c.refused("joined before kind", Checks.STATE, () -> x.make(s, 10));
        for (int i = 4; i < 60; i++) {
            c.due("make " + i, x.make(t, i % 10), i);
        }
        c.due("no 61st", x.make(t, 0), -1);
        c.refused("kind before NONE", Checks.ARGUMENT, () -> x.make(t, 10));
        c.due("a dropped one counts", x.drop(t, 59), true);
        c.due("still no 61st", x.make(t, 0), -1);
        c.due("an undone one counts", x.undo(t) && x.undo(t), true);
        c.due("again no 61st", x.make(t, 0), -1);
    }

    private static void undo() {
        ObjectMerge x = Checks.withObjects(1);
        int s = x.session();
        int t = x.session();
        c.due("nothing to undo", x.undo(s), false);
        x.set(s, 0, 1, 5);
        x.set(s, 0, 1, 6);
        x.set(s, 0, 1, 6);
        int made = x.make(s, 0);
        x.set(s, made, 2, 9);
        x.drop(s, made);
        x.drop(s, 0);
        c.due("another session has nothing to undo", x.undo(t), false);
        c.due("undo the drop", x.undo(s), true);
        c.due("it is as it was", x.set(s, 0, 1, 6), false);
        c.due("undo the drop of the made one", x.undo(s), true);
        c.due("the made one is as it was", x.set(s, made, 2, 9), false);
        c.due("undo its field", x.undo(s), true);
        c.due("its field is 0", x.set(s, made, 2, 0), false);
        c.due("undo make", x.undo(s), true);
        c.refused("it is not there", Checks.STATE, () -> x.set(s, made, 2, 0));
        c.due("undo 6", x.undo(s), true);
        c.due("5 is back", x.set(s, 0, 1, 5), false);
        c.due("undo 5", x.undo(s), true);
        c.due("0 is back", x.set(s, 0, 1, 0), false);
        c.due("nothing left", x.undo(s), false);
        c.due("number of a made and undone one is spent", x.make(t, 0), made + 1);
        c.refused("session -1", Checks.INDEX, () -> x.undo(-1));
        c.refused("session 2", Checks.INDEX, () -> x.undo(2));
        x.set(s, 0, 1, 5);
        x.join(s);
        c.refused("joined", Checks.STATE, () -> x.undo(s));
        c.due("joined value", x.at(0, 1), 5);
    }

    private static void undoLatestForty() {
        ObjectMerge x = Checks.withObjects(1);
        int s = x.session();
        for (int v = 1; v <= 41; v++) {
            x.set(s, 0, 3, v);
        }
        for (int i = 0; i < 40; i++) {
            c.due("undo " + i, x.undo(s), true);
        }
        c.due("the 41st from the end stays", x.undo(s), false);
        c.due("it is 1", x.set(s, 0, 3, 1), false);
        int t = x.session();
        for (int v = 1; v <= 40; v++) {
            x.set(t, 0, 3, v);
        }
        for (int i = 0; i < 40; i++) {
            c.due("undo of forty " + i, x.undo(t), true);
        }
        c.due("forty are all", x.undo(t), false);
        c.due("it is 0", x.set(t, 0, 3, 0), false);
    }

    private static void undoBehindUndo() {
        ObjectMerge x = Checks.withObjects(1);
        int s = x.session();
        for (int v = 1; v <= 45; v++) {
            x.set(s, 0, 3, v);
        }
        for (int i = 0; i < 5; i++) {
            x.undo(s);
        }
        for (int v = 101; v <= 103; v++) {
            x.set(s, 0, 3, v);
        }
        int undone = 0;
        while (undone < 100 && x.undo(s)) {
            undone++;
        }
        c.due("35 old and 3 new changes", undone, 38);
        c.due("the fifth stays", x.set(s, 0, 3, 5), false);
    }

    private static void branch() {
        ObjectMerge x = Checks.withObjects(2);
        int s = x.session();
        x.set(s, 0, 4, 7);
        x.join(s);
        c.refused("version 4", Checks.INDEX, () -> x.branch(4));
        c.refused("version -1", Checks.INDEX, () -> x.branch(-1));
        int t = x.branch(1);
        c.due("a branch is a session", t, 1);
        c.refused("version 1 has one object", Checks.STATE, () -> x.set(t, 1, 0, 1));
        c.due("version 1 has the old value", x.set(t, 0, 4, 0), false);
        int u = x.branch(3);
        c.due("a branch of the head", x.set(u, 0, 4, 7), false);
        int w = x.branch(0);
        c.refused("version 0 has no object", Checks.STATE, () -> x.drop(w, 0));
        int made = x.make(w, 0);
        c.due("join of a branch", x.join(w), 0);
        c.due("it keeps the head", x.at(0, 4), 7);
        c.due("and takes what was made", x.at(made, 0), 0);
        x.set(t, 0, 4, 7);
        c.due("alike in head and session", x.join(t), 0);
        c.due("still 7", x.at(0, 4), 7);
        c.due("object 1 stays", x.at(1, 0), 0);
    }
}
