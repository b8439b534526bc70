/** Edges of promises 3 (session), 4 (set), 5 (drop), 6 (make), 17 (branch). */
final class SessionEdges {
    private static final int NONE = ObjectMerge.NONE;

    static void all(Edges e) {
        e.edge(3, "A SESSION, at most 20 in all, numbered from 0", SessionEdges::twentySessions);
        e.edge(3, "NONE when there were 20", SessionEdges::noSessionLeft);
        e.edge(3, "A new SESSION, its BASE the HEAD: its number", SessionEdges::baseIsHead);
        e.edge(3, "begins with what its BASE, a version, has", SessionEdges::beginsWithBase);
        e.edge(3, "is OPEN until it is joined", SessionEdges::openUntilJoined);
        setEdges(e);
        e.edge(5, "A session drops an object: true", SessionEdges::drops);
        e.edge(5, "false, when it is barred", SessionEdges::dropBarred);
        e.edge(5, "Throws likewise", SessionEdges::dropNoSession);
        e.edge(5, "Throws likewise", SessionEdges::dropNoObject);
        e.edge(5, "Throws likewise", SessionEdges::dropNotOpen);
        e.edge(5, "Throws likewise", SessionEdges::dropNotThere);
        e.edge(6, "A session makes an object: its number", SessionEdges::makes);
        e.edge(6, "NONE when there are 60", SessionEdges::makeFull);
        e.edge(6, "IndexOutOfBoundsException, when there is no such session", SessionEdges::makeNoSession);
        e.edge(6, "IllegalStateException, when it is not OPEN", SessionEdges::makeNotOpen);
        e.edge(6, "IllegalArgumentException, when it is no kind", SessionEdges::makeNoKind);
        e.edge(17, "A new SESSION with a BASE: its number", SessionEdges::branches);
        e.edge(17, "A SESSION, at most 20 in all, numbered from 0", SessionEdges::twentyBranches);
        e.edge(17, "NONE when there were 20", SessionEdges::noBranchLeft);
        e.edge(17, "IndexOutOfBoundsException, when there is no such version", SessionEdges::branchNoVersion);
    }

    private static void setEdges(Edges e) {
        e.edge(4, "A session sets a FIELD: true", SessionEdges::sets);
        e.edge(4, "FIELDS 0 .. 5", SessionEdges::setsFirstAndLastField);
        e.edge(4, "false, when it has that value", SessionEdges::setSame);
        e.edge(4, "false, when it has that value, or is barred by a LOCK", SessionEdges::setBarred);
        e.edge(4, "IndexOutOfBoundsException, when there is no such session", SessionEdges::setNoSession);
        e.edge(4, "IndexOutOfBoundsException, when there is no such session, object", SessionEdges::setNoObject);
        e.edge(4, "IndexOutOfBoundsException, when there is no such session, object, or field", SessionEdges::setNoField);
        e.edge(4, "IllegalStateException, when the session is not OPEN", SessionEdges::setNotOpen);
        e.edge(4, "IllegalStateException, when the session is not OPEN, or has no such object", SessionEdges::setNotThere);
    }

    // ---- 3

    private static void twentySessions(Checks c) {
        ObjectMerge x = new ObjectMerge();
        for (int i = 0; i < 20; i++) {
            c.due("session " + i, x.session(), i);
        }
        c.due("no 21st", x.session(), NONE);
        c.due("the last one is there", x.make(19, 0), 0);
        c.refused("session 20 is not", Checks.INDEX, () -> x.make(20, 0));
    }

    private static void noSessionLeft(Checks c) {
        ObjectMerge x = Checks.withObjects(1);
        x.play(1, 1);
        x.branch(0);
        for (int i = 2; i < 20; i++) {
            c.due("session " + i, x.session(), i);
        }
        c.due("played ones and branches count", x.session(), NONE);
        c.due("join", x.join(19), 0);
        c.due("joined ones count", x.session(), NONE);
    }

    private static void baseIsHead(Checks c) {
        ObjectMerge x = Checks.withObjects(1);
        c.due("the first number", x.session(), 0);
        x.set(0, 0, 0, 5);
        c.due("the next number", x.session(), 1);
        x.join(0);
        c.due("the number behind a join", x.session(), 2);
        c.due("1 has what the head had then", x.set(1, 0, 0, 0), false);
        c.due("2 has what the head has now", x.set(2, 0, 0, 5), false);
    }

    private static void beginsWithBase(Checks c) {
        ObjectMerge x = Checks.withObjects(2);
        int s = x.session();
        x.object(0);
        c.due("object 1 is in its base", x.set(s, 1, 0, 1), true);
        c.refused("object 2 came later", Checks.STATE, () -> x.set(s, 2, 0, 1));
        c.due("nothing is changed at first", x.undo(x.session()), false);
    }

    private static void openUntilJoined(Checks c) {
        ObjectMerge x = Checks.withObjects(1);
        int s = x.session();
        int t = x.session();
        x.set(s, 0, 0, 1);
        x.set(t, 0, 0, 2);
        x.join(s);
        c.due("a conflict", x.join(t), 1);
        c.due("not joined, so open", x.set(t, 0, 1, 1), true);
        x.settle(0, 0);
        c.due("joined", x.join(t), 0);
        c.refused("set", Checks.STATE, () -> x.set(t, 0, 1, 2));
        c.refused("drop", Checks.STATE, () -> x.drop(t, 0));
        c.refused("make", Checks.STATE, () -> x.make(t, 0));
        c.refused("join", Checks.STATE, () -> x.join(t));
        c.refused("settle", Checks.STATE, () -> x.settle(0, 1));
        c.refused("lock", Checks.STATE, () -> x.lock(t, 0, 0, 1, 1));
        c.refused("undo", Checks.STATE, () -> x.undo(t));
    }

    // ---- 4

    private static void sets(Checks c) {
        ObjectMerge x = Checks.withObjects(1);
        int s = x.session();
        c.due("set", x.set(s, 0, 3, 5), true);
        c.due("it is set", x.set(s, 0, 3, 5), false);
        c.due("the other fields are not", x.set(s, 0, 2, 0) || x.set(s, 0, 4, 0), false);
        c.due("back to what the base has", x.set(s, 0, 3, 0), true);
    }

    private static void setsFirstAndLastField(Checks c) {
        ObjectMerge x = Checks.withObjects(1);
        int s = x.session();
        c.due("field 0", x.set(s, 0, 0, -8), true);
        c.due("field 5", x.set(s, 0, 5, 8), true);
        x.join(s);
        c.due("field 0 joined", x.at(0, 0), -8);
        c.due("field 5 joined", x.at(0, 5), 8);
    }

    private static void setSame(Checks c) {
        ObjectMerge x = Checks.withObjects(1);
        int s = x.session();
        c.due("0 at first", x.set(s, 0, 0, 0), false);
        x.set(s, 0, 0, Long.MIN_VALUE);
        c.due("MIN again", x.set(s, 0, 0, Long.MIN_VALUE), false);
        c.due("only the low half alike", x.set(s, 0, 0, 0), true);
        c.due("one change and its way back: two to undo", x.undo(s) && x.undo(s), true);
        c.due("the refused ones are no changes", x.undo(s), false);
    }

    private static void setBarred(Checks c) {
        ObjectMerge x = Checks.withObjects(1);
        int s = x.session();
        int t = x.session();
        x.lock(t, 0, 0, 0, 0);
        c.due("barred", x.set(s, 0, 3, 5), false);
        c.due("its place is barred, too", x.set(s, 0, 0, 5), false);
        c.due("no change", x.undo(s), false);
        c.due("the lock's own session is not barred", x.set(t, 0, 3, 5), true);
        x.join(t);
        c.due("barred no more", x.set(s, 0, 3, 6), true);
    }

    private static void setNoSession(Checks c) {
        ObjectMerge x = Checks.withObjects(1);
        c.refusedOutside("without sessions, session", 0, Checks.INDEX, i -> x.set(i, 0, 0, 1));
        x.session();
        c.due("the last session", x.set(x.session(), 0, 0, 1), true);
        c.refusedOutside("session", 2, Checks.INDEX, i -> x.set(i, 0, 0, 1));
    }

    private static void setNoObject(Checks c) {
        ObjectMerge x = Checks.withObjects(2);
        int s = x.session();
        c.due("the last object", x.set(s, 1, 0, 1), true);
        c.refusedOutside("object", 2, Checks.INDEX, i -> x.set(s, i, 0, 1));
        x.join(s);
        c.refusedOutside("of a joined session, object", 2, Checks.INDEX, i -> x.set(s, i, 0, 1));
    }

    private static void setNoField(Checks c) {
        ObjectMerge x = Checks.withObjects(1);
        int s = x.session();
        c.refusedOutside("field", 6, Checks.INDEX, i -> x.set(s, 0, i, 1));
        c.due("no change", x.undo(s), false);
        x.drop(s, 0);
        c.refusedOutside("of a dropped object, field", 6, Checks.INDEX, i -> x.set(s, 0, i, 1));
    }

    private static void setNotOpen(Checks c) {
        ObjectMerge x = Checks.withObjects(1);
        int s = x.session();
        x.set(s, 0, 0, 1);
        x.join(s);
        c.refused("another value", Checks.STATE, () -> x.set(s, 0, 0, 2));
        c.refused("the value it has", Checks.STATE, () -> x.set(s, 0, 0, 1));
        c.due("the head is as it was", x.at(0, 0), 1);
    }

    private static void setNotThere(Checks c) {
        ObjectMerge x = Checks.withObjects(1);
        int s = x.session();
        int t = x.session();
        x.object(0);
        c.refused("of a later version", Checks.STATE, () -> x.set(s, 1, 0, 1));
        int made = x.make(t, 0);
        c.refused("made by another session", Checks.STATE, () -> x.set(s, made, 0, 1));
        c.due("made by itself", x.set(t, made, 0, 1), true);
        x.drop(s, 0);
        c.refused("dropped", Checks.STATE, () -> x.set(s, 0, 0, 1));
        c.refused("dropped, the value it had", Checks.STATE, () -> x.set(s, 0, 0, 0));
        x.undo(t);
        x.undo(t);
        c.refused("make undone", Checks.STATE, () -> x.set(t, made, 0, 1));
    }

    // ---- 5

    private static void drops(Checks c) {
        ObjectMerge x = Checks.withObjects(3);
        int s = x.session();
        c.due("the first", x.drop(s, 0), true);
        c.due("the last", x.drop(s, 2), true);
        c.due("a made one", x.drop(s, x.make(s, 0)), true);
        c.due("the head has it still", x.at(2, 0), 0);
        x.join(s);
        c.refused("0 is gone", Checks.STATE, () -> x.at(0, 0));
        c.due("1 is there", x.at(1, 0), 0);
        c.refused("2 is gone", Checks.STATE, () -> x.at(2, 0));
        c.refused("3 is gone", Checks.STATE, () -> x.at(3, 0));
    }

    private static void dropBarred(Checks c) {
        ObjectMerge x = Checks.withObjects(1);
        int s = x.session();
        int t = x.session();
        x.lock(t, 0, 0, 0, 0);
        c.due("barred", x.drop(s, 0), false);
        c.due("no change", x.undo(s), false);
        c.due("it is there still", x.drop(t, 0), true);
        x.undo(t);
        x.join(t);
        c.due("barred no more", x.drop(s, 0), true);
    }

    private static void dropNoSession(Checks c) {
        ObjectMerge x = Checks.withObjects(1);
        c.refusedOutside("without sessions, session", 0, Checks.INDEX, i -> x.drop(i, 0));
        x.session();
        c.refusedOutside("session", 1, Checks.INDEX, i -> x.drop(i, 0));
    }

    private static void dropNoObject(Checks c) {
        ObjectMerge x = Checks.withObjects(2);
        int s = x.session();
        c.refusedOutside("object", 2, Checks.INDEX, i -> x.drop(s, i));
        c.due("no change", x.undo(s), false);
        x.join(s);
        c.refusedOutside("of a joined session, object", 2, Checks.INDEX, i -> x.drop(s, i));
    }

    private static void dropNotOpen(Checks c) {
        ObjectMerge x = Checks.withObjects(1);
        int s = x.session();
        x.join(s);
        c.refused("joined", Checks.STATE, () -> x.drop(s, 0));
        c.due("the head is as it was", x.at(0, 0), 0);
    }

    private static void dropNotThere(Checks c) {
        ObjectMerge x = Checks.withObjects(1);
        int s = x.session();
        int t = x.session();
        x.object(0);
        c.refused("of a later version", Checks.STATE, () -> x.drop(s, 1));
        int made = x.make(t, 0);
        c.refused("made by another session", Checks.STATE, () -> x.drop(s, made));
        x.drop(s, 0);
        c.refused("dropped before", Checks.STATE, () -> x.drop(s, 0));
        c.due("one change", x.undo(s), true);
        c.due("no other", x.undo(s), false);
    }

    // ---- 6

    private static void makes(Checks c) {
        ObjectMerge x = Checks.withObjects(1);
        int s = x.session();
        int t = x.session();
        c.due("kind 0", x.make(s, 0), 1);
        c.due("kind 9", x.make(t, 9), 2);
        c.due("no number comes twice", x.object(0), 3);
        x.undo(t);
        c.due("nor one that was undone", x.make(t, 0), 4);
    }

    private static void makeFull(Checks c) {
        ObjectMerge x = Checks.withObjects(2);
        int s = x.session();
        for (int i = 2; i < 59; i++) {
            x.make(s, 0);
        }
        int t = x.session();
        c.due("the 60th", x.make(t, 9), 59);
        c.due("no 61st", x.make(t, 9), NONE);
        c.due("for no session", x.make(s, 9), NONE);
        c.due("the 60th can be undone", x.undo(t), true);
        c.due("NONE was no change", x.undo(t), false);
        c.due("its number is spent", x.make(t, 0), NONE);
    }

    private static void makeNoSession(Checks c) {
        ObjectMerge x = new ObjectMerge();
        c.refusedOutside("without sessions, session", 0, Checks.INDEX, i -> x.make(i, 0));
        int s = x.session();
        c.refusedOutside("session", 1, Checks.INDEX, i -> x.make(i, 0));
        c.refusedOutside("no kind either, session", 1, Checks.INDEX, i -> x.make(i, 10));
        c.due("no number was spent", x.make(s, 0), 0);
    }

    private static void makeNotOpen(Checks c) {
        ObjectMerge x = new ObjectMerge();
        int s = x.session();
        x.join(s);
        c.refused("joined", Checks.STATE, () -> x.make(s, 0));
        c.refused("joined, and no kind", Checks.STATE, () -> x.make(s, 10));
        c.due("no number was spent", x.object(0), 0);
    }

    private static void makeNoKind(Checks c) {
        ObjectMerge x = new ObjectMerge();
        int s = x.session();
        c.refusedOutside("kind", 10, Checks.ARGUMENT, i -> x.make(s, i));
        c.due("no change", x.undo(s), false);
        for (int i = 0; i < 60; i++) {
            c.due("no number was spent " + i, x.make(s, 0), i);
        }
        c.refusedOutside("with 60 numbers, kind", 10, Checks.ARGUMENT, i -> x.make(s, i));
    }

    // ---- 17

    private static void branches(Checks c) {
        ObjectMerge x = Checks.withObjects(2);
        int s = x.session();
        x.set(s, 0, 4, 7);
        x.join(s);
        c.due("of version 0", x.branch(0), 1);
        c.refused("it has no object", Checks.STATE, () -> x.set(1, 0, 0, 1));
        c.due("of version 2", x.branch(2), 2);
        c.due("it has the old value", x.set(2, 0, 4, 0), false);
        c.due("of the head", x.branch(3), 3);
        c.due("it has the new value", x.set(3, 0, 4, 7), false);
        c.due("no version came", x.version(), 3);
    }

    private static void twentyBranches(Checks c) {
        ObjectMerge x = new ObjectMerge();
        for (int i = 0; i < 20; i++) {
            c.due("branch " + i, x.branch(0), i);
        }
        c.due("no 21st", x.branch(0), NONE);
        c.due("the last one is there", x.undo(19), false);
    }

    private static void noBranchLeft(Checks c) {
        ObjectMerge x = Checks.withObjects(1);
        x.play(1, 1);
        for (int i = 1; i < 20; i++) {
            x.session();
        }
        c.due("played ones and sessions count", x.branch(1), NONE);
        x.join(1);
        c.due("joined ones count", x.branch(1), NONE);
        c.refused("session 20", Checks.INDEX, () -> x.undo(20));
    }

    private static void branchNoVersion(Checks c) {
        ObjectMerge x = Checks.withObjects(2);
        c.refusedOutside("version", 3, Checks.INDEX, x::branch);
        c.due("no session was spent", x.session(), 0);
        ObjectMerge full = Checks.withObjects(39);
        c.due("version 39", full.branch(39), 0);
        c.refusedOutside("with 40 versions, version", 40, Checks.INDEX, full::branch);
        for (int i = 1; i < 20; i++) {
            full.session();
        }
        c.refusedOutside("with 20 sessions, version", 40, Checks.INDEX, full::branch);
    }
}
