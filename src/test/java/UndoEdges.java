/** Edges of promise 16 (undo). */
final class UndoEdges {
    static void all(Edges e) {
        e.edge(16, "The latest change of a session that is not undone yet is undone: true", UndoEdges::latestFirst);
        e.edge(16, "What it has changed can be undone, the latest 40 changes", UndoEdges::fortyAreAll);
        e.edge(16, "the latest 40 changes", UndoEdges::fortyFirst);
        e.edge(16, "the latest 40 changes", UndoEdges::oneOfEachKind);
        e.edge(16, "the latest 40 changes", UndoEdges::manyTimesForty);
        e.edge(16, "that is not undone yet", UndoEdges::undoneMakesRoom);
        e.edge(16, "false, when there is none that can be", UndoEdges::none);
        e.edge(16, "false, when there is none that can be", UndoEdges::noneOfItsOwn);
        e.edge(16, "IndexOutOfBoundsException, when there is no such session", UndoEdges::noSession);
        e.edge(16, "IllegalStateException, when it is not OPEN", UndoEdges::notOpen);
    }

    private static void setUpTo(ObjectMerge x, int session, int from, int to) {
        for (int v = from; v <= to; v++) {
            x.set(session, 0, 3, v);
        }
    }

    /** More than can be undone in any case. */
    private static int undoAll(ObjectMerge x, int session) {
        int undone = 0;
        while (undone < 100 && x.undo(session)) {
            undone++;
        }
        return undone;
    }

    private static void latestFirst(Checks c) {
        ObjectMerge x = Checks.withObjects(2);
        int s = x.session();
        x.set(s, 0, 1, 5);
        x.set(s, 0, 1, 6);
        x.drop(s, 0);
        int made = x.make(s, 0);
        c.due("undo make", x.undo(s), true);
        c.refused("it is not there", Checks.STATE, () -> x.set(s, made, 0, 1));
        c.due("undo drop", x.undo(s), true);
        c.due("it is as it was", x.set(s, 0, 1, 6), false);
        c.due("undo 6", x.undo(s), true);
        c.due("5 is back", x.set(s, 0, 1, 5), false);
        c.due("undo 5", x.undo(s), true);
        c.due("0 is back", x.set(s, 0, 1, 0), false);
    }

    private static void fortyAreAll(Checks c) {
        ObjectMerge x = Checks.withObjects(1);
        int s = x.session();
        setUpTo(x, s, 1, 40);
        c.due("40 changes", undoAll(x, s), 40);
        c.due("all are undone", x.set(s, 0, 3, 0), false);
    }

    private static void fortyFirst(Checks c) {
        ObjectMerge x = Checks.withObjects(1);
        int s = x.session();
        setUpTo(x, s, 1, 41);
        c.due("of 41 changes", undoAll(x, s), 40);
        c.due("the first stays", x.set(s, 0, 3, 1), false);
        c.due("join", x.join(s), 0);
        c.due("it is joined", x.at(0, 3), 1);
    }

    private static void oneOfEachKind(Checks c) {
        ObjectMerge x = Checks.withObjects(1);
        int s = x.session();
        x.set(s, 0, 3, 1);
        for (int i = 0; i < 13; i++) {
            int made = x.make(s, 0);
            x.set(s, made, 0, 1);
            x.drop(s, made);
        }
        x.drop(s, 0);
        c.due("39 of made ones, and a drop", undoAll(x, s), 40);
        c.due("the first stays", x.set(s, 0, 3, 1), false);
        c.refused("the made ones are not there", Checks.STATE, () -> x.set(s, 1, 0, 1));
    }

    private static void manyTimesForty(Checks c) {
        ObjectMerge x = Checks.withObjects(1);
        int s = x.session();
        setUpTo(x, s, 1, 199);
        c.due("of 199 changes", undoAll(x, s), 40);
        c.due("the 159th stays", x.set(s, 0, 3, 159), false);
    }

    private static void undoneMakesRoom(Checks c) {
        ObjectMerge x = Checks.withObjects(1);
        int s = x.session();
        setUpTo(x, s, 1, 45);
        for (int i = 0; i < 5; i++) {
            c.due("undo " + i, x.undo(s), true);
        }
        setUpTo(x, s, 101, 103);
        c.due("35 old and 3 new ones", undoAll(x, s), 38);
        c.due("the fifth stays", x.set(s, 0, 3, 5), false);
        setUpTo(x, s, 201, 241);
        c.due("of 41 new ones", undoAll(x, s), 40);
        c.due("the first new one stays", x.set(s, 0, 3, 201), false);
    }

    private static void none(Checks c) {
        ObjectMerge x = Checks.withObjects(1);
        int s = x.session();
        c.due("at first", x.undo(s), false);
        x.set(s, 0, 0, 0);
        c.due("behind a set that changed nothing", x.undo(s), false);
        x.set(s, 0, 0, 1);
        c.due("one", x.undo(s), true);
        c.due("no more", x.undo(s), false);
        c.due("and again", x.undo(s), false);
        c.due("nothing is undone twice", x.set(s, 0, 0, 0), false);
    }

    private static void noneOfItsOwn(Checks c) {
        ObjectMerge x = Checks.withObjects(1);
        int s = x.session();
        int t = x.session();
        x.set(s, 0, 0, 1);
        c.due("another one's changes are not its own", x.undo(t), false);
        x.join(s);
        x.set(t, 0, 0, 2);
        x.join(t);
        x.settle(0, 1);
        c.due("settling is no change, the set is", x.undo(t), true);
        c.due("and no more", x.undo(t), false);
    }

    private static void noSession(Checks c) {
        ObjectMerge x = Checks.withObjects(1);
        c.refusedOutside("without sessions, session", 0, Checks.INDEX, x::undo);
        x.session();
        c.due("the last session", x.undo(x.session()), false);
        c.refusedOutside("session", 2, Checks.INDEX, x::undo);
    }

    private static void notOpen(Checks c) {
        ObjectMerge x = Checks.withObjects(1);
        int s = x.session();
        int t = x.session();
        x.set(s, 0, 0, 1);
        x.join(s);
        c.refused("joined", Checks.STATE, () -> x.undo(s));
        x.join(t);
        c.refused("joined without a change", Checks.STATE, () -> x.undo(t));
        c.due("the head is as it was", x.at(0, 0), 1);
    }
}
