/** Promises 1 (a new object), 2 (object), 10 (at), 14 (version). */
public final class ObjectsTest {
    private static final Checks c = new Checks("ObjectsTest");

    public static void main(String[] args) {
        newOne();
        objects();
        mostVersions();
        mostObjects();
        at();
        c.end();
    }

    private static void newOne() {
        ObjectMerge x = new ObjectMerge();
        c.due("NONE", ObjectMerge.NONE, -1);
        c.due("version of a new one", x.version(), 0);
        c.due("difference of version 0 and itself", x.difference(0, 0, 0), -1);
        c.refused("version 1 of a new one", Checks.INDEX, () -> x.difference(0, 1, 0));
        c.refused("a session of a new one", Checks.INDEX, () -> x.undo(0));
        c.refused("an object of a new one", Checks.INDEX, () -> x.at(0, 0));
        c.refused("a conflict of a new one", Checks.INDEX, () -> x.conflict(0, 0));
        c.due("violation of a new one", x.violation(0, 0), -1);
    }

    private static void objects() {
        ObjectMerge x = new ObjectMerge();
        c.due("kind 0", x.object(0), 0);
        c.due("kind 9", x.object(9), 1);
        c.refused("kind 10", Checks.ARGUMENT, () -> x.object(10));
        c.refused("kind -1", Checks.ARGUMENT, () -> x.object(-1));
        c.refused("kind MAX", Checks.ARGUMENT, () -> x.object(Integer.MAX_VALUE));
        c.due("version behind two objects", x.version(), 2);
        c.due("version 1 has object 0", x.difference(0, 1, 0), 6);
        c.due("version 1 has not object 1", x.difference(0, 1, 1), -1);
        c.due("version 2 is otherwise like 1", x.difference(1, 2, 0), 8 + 6);
        c.due("version 2 is otherwise like 1, all", x.difference(1, 2, 1), -1);
        int s = x.session();
        x.set(s, 0, 3, 33);
        x.join(s);
        c.due("object behind a join", x.object(1), 2);
        c.due("it keeps what the head had", x.at(0, 3), 33);
    }

    private static void mostVersions() {
        ObjectMerge x = new ObjectMerge();
        for (int i = 0; i < 39; i++) {
            c.due("object " + i, x.object(i % 10), i);
        }
        c.due("version 39", x.version(), 39);
        c.due("no 41st version", x.object(0), -1);
        c.due("version 39 still", x.version(), 39);
        c.refused("the kind is looked at first", Checks.ARGUMENT, () -> x.object(10));
        c.due("version 39 has object 38", x.difference(38, 39, 0), 8 * 38 + 6);
        c.refused("no version 40", Checks.INDEX, () -> x.difference(40, 39, 0));
        c.refused("no branch of version 40", Checks.INDEX, () -> x.branch(40));
        c.refused("no number was spent", Checks.INDEX, () -> x.at(39, 0));
    }

    private static void mostObjects() {
        ObjectMerge x = new ObjectMerge();
        int s = x.session();
        for (int i = 0; i < 59; i++) {
            c.due("made " + i, x.make(s, 0), i);
        }
        c.due("the 60th", x.object(0), 59);
        c.due("no 61st", x.object(0), -1);
        c.due("no 61st made", x.make(s, 0), -1);
        c.due("no version for it", x.version(), 1);
        c.refused("kind before NONE", Checks.ARGUMENT, () -> x.object(10));
        c.due("object 59", x.at(59, 5), 0);
        c.refused("object 60", Checks.INDEX, () -> x.at(60, 5));
        c.due("join of 59 made ones", x.join(s), 0);
        c.due("object 58 joined", x.at(58, 0), 0);
    }

    private static void at() {
        ObjectMerge x = new ObjectMerge();
        x.object(4);
        for (int f = 0; f < 6; f++) {
            c.due("a field at first", x.at(0, f), 0);
        }
        c.refused("field 6", Checks.INDEX, () -> x.at(0, 6));
        c.refused("field -1", Checks.INDEX, () -> x.at(0, -1));
        c.refused("object 1", Checks.INDEX, () -> x.at(1, 0));
        c.refused("object -1", Checks.INDEX, () -> x.at(-1, 0));
        int s = x.session();
        for (int f = 0; f < 6; f++) {
            x.set(s, 0, f, f % 2 == 0 ? Long.MAX_VALUE - f : Long.MIN_VALUE + f);
        }
        c.due("at tells the head, not a session", x.at(0, 0), 0);
        x.join(s);
        for (int f = 0; f < 6; f++) {
            c.due("a field joined", x.at(0, f), f % 2 == 0 ? Long.MAX_VALUE - f : Long.MIN_VALUE + f);
        }
        int t = x.session();
        x.make(t, 2);
        c.refused("made, not joined", Checks.STATE, () -> x.at(1, 0));
        c.refused("made, not joined, field 6", Checks.INDEX, () -> x.at(1, 6));
        x.drop(t, 0);
        c.due("dropped, not joined", x.at(0, 1), Long.MIN_VALUE + 1);
        x.join(t);
        c.refused("dropped", Checks.STATE, () -> x.at(0, 0));
        c.due("made and joined", x.at(1, 0), 0);
        c.due("version behind four", x.version(), 3);
    }
}
