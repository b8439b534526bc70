/** Edges of promise 7 (join), and of TO JOIN in the terms. */
final class JoinEdges {
    private static final int NONE = ObjectMerge.NONE;

    static void all(Edges e) {
        e.edge(7, "TO JOIN a session: for each object that it has changed from what the BASE has", JoinEdges::unchanged);
        e.edge(7, "if the HEAD has it as the BASE, that is done", JoinEdges::headAsBase);
        e.edge(7, "an object that was made is taken", JoinEdges::madeIsTaken);
        e.edge(7, "FIELD by FIELD, of those in which the session has another value than the BASE "
                + "(others stay as the HEAD has them)", JoinEdges::otherFieldsStay);
        e.edge(7, "if the HEAD has another value than the BASE and than the session, "
                + "there is a CONFLICT of that FIELD", JoinEdges::threeValues);
        e.edge(7, "else the session's value is taken", JoinEdges::twoValues);
        e.edge(7, "If the session has it no more: that is done, if the HEAD has it no more either", JoinEdges::droppedByBoth);
        e.edge(7, "or all as in the BASE", JoinEdges::droppedAsInBase);
        e.edge(7, "else there is a CONFLICT 6", JoinEdges::droppedButChanged);
        e.edge(7, "If the HEAD has it no more, but the session: a CONFLICT 6", JoinEdges::changedButDropped);
        e.edge(7, "An object that was made and dropped again is as if it had not been made", JoinEdges::madeAndDropped);
        settledEdges(e);
        e.edge(7, "JOINS a session: how many CONFLICTS are not SETTLED (0: it is joined)", JoinEdges::counts);
        e.edge(7, "how many CONFLICTS are not SETTLED", JoinEdges::countsMany);
        e.edge(7, "NONE when there are 40 versions", JoinEdges::noVersionLeft);
        e.edge(7, "at most 40", JoinEdges::lastVersion);
        e.edge(7, "IndexOutOfBoundsException, when there is no such session", JoinEdges::noSession);
        e.edge(7, "IllegalStateException, when it is not OPEN", JoinEdges::notOpen);
    }

    private static void settledEdges(Edges e) {
        e.edge(7, "A CONFLICT may have been SETTLED: side 0, the HEAD keeps what it has", JoinEdges::sideOfHead);
        e.edge(7, "or side 1, the session's value is taken", JoinEdges::sideOfSession);
        e.edge(7, "for CONFLICT 6 all that the session has of the object", JoinEdges::comesBack);
        e.edge(7, "or that it has it no more", JoinEdges::goes);
        e.edge(7, "side 0, the HEAD keeps what it has", JoinEdges::headKeepsWhole);
        e.edge(7, "If one is not SETTLED, nothing changes", JoinEdges::nothingChanges);
        e.edge(7, "else the new VERSION is the HEAD then, also if nothing changed", JoinEdges::versionWithoutChange);
        e.edge(7, "and the session is closed", JoinEdges::closes);
        e.edge(7, "its LOCKS are gone", JoinEdges::locksGo);
    }

    /** Session 0 is joined with one value in object 0, field 2; session 1, of the same base, is open. */
    private static ObjectMerge headHas(long v) {
        ObjectMerge x = Checks.withObjects(1);
        x.session();
        x.session();
        x.set(0, 0, 2, v);
        x.join(0);
        return x;
    }

    /** Session 0 is joined and has dropped object 0; session 1, of the same base, is open. */
    private static ObjectMerge headDropped() {
        ObjectMerge x = Checks.withObjects(1);
        x.session();
        x.session();
        x.drop(0, 0);
        x.join(0);
        return x;
    }

    private static void unchanged(Checks c) {
        ObjectMerge x = headHas(5);
        x.set(1, 0, 2, 6);
        x.set(1, 0, 2, 0);
        c.due("set and set back", x.join(1), 0);
        c.due("the head keeps its value", x.at(0, 2), 5);
        ObjectMerge y = headDropped();
        y.set(1, 0, 2, 6);
        y.undo(1);
        c.due("set and undone", y.join(1), 0);
        c.refused("the head has it no more", Checks.STATE, () -> y.at(0, 2));
        ObjectMerge z = headHas(5);
        z.drop(1, 0);
        z.undo(1);
        c.due("dropped and undone", z.join(1), 0);
        c.due("the head keeps it", z.at(0, 2), 5);
    }

    private static void headAsBase(Checks c) {
        ObjectMerge x = Checks.withObjects(2);
        int s = x.session();
        x.set(s, 0, 0, Long.MAX_VALUE);
        x.set(s, 0, 5, Long.MIN_VALUE);
        x.drop(s, 1);
        c.due("no conflict", x.join(s), 0);
        c.due("field 0", x.at(0, 0), Long.MAX_VALUE);
        c.due("field 5", x.at(0, 5), Long.MIN_VALUE);
        c.refused("dropped", Checks.STATE, () -> x.at(1, 0));
    }

    private static void madeIsTaken(Checks c) {
        ObjectMerge x = headHas(5);
        int made = x.make(1, 0);
        int bare = x.make(1, 0);
        x.set(1, made, 4, 9);
        c.due("no conflict", x.join(1), 0);
        c.due("as it was set", x.at(made, 4), 9);
        c.due("all 0, too", x.at(bare, 0), 0);
        c.due("beside the head's", x.at(0, 2), 5);
    }

    private static void otherFieldsStay(Checks c) {
        ObjectMerge x = headHas(5);
        x.set(1, 0, 0, 7);
        x.set(1, 0, 5, 8);
        c.due("no conflict", x.join(1), 0);
        c.due("the head's field", x.at(0, 2), 5);
        c.due("the session's field 0", x.at(0, 0), 7);
        c.due("the session's field 5", x.at(0, 5), 8);
        c.due("nobody's field", x.at(0, 3), 0);
    }

    private static void threeValues(Checks c) {
        ObjectMerge x = headHas(5);
        x.set(1, 0, 2, 6);
        x.set(1, 0, 3, 7);
        c.due("one conflict", x.join(1), 1);
        c.due("its object", x.conflict(0, 0), 0);
        c.due("its field", x.conflict(0, 1), 2);
    }

    private static void twoValues(Checks c) {
        ObjectMerge x = headHas(5);
        x.set(1, 0, 2, 5);
        c.due("the head has what the session has", x.join(1), 0);
        c.due("it stays", x.at(0, 2), 5);
        ObjectMerge y = headHas(5);
        int t = y.session();
        y.set(t, 0, 2, 0);
        y.join(t);
        y.set(1, 0, 2, 6);
        c.due("the head has what the base has, again", y.join(1), 0);
        c.due("the session's value", y.at(0, 2), 6);
    }

    private static void droppedByBoth(Checks c) {
        ObjectMerge x = headDropped();
        x.drop(1, 0);
        c.due("no conflict", x.join(1), 0);
        c.due("a version", x.version(), 3);
        c.refused("it is gone", Checks.STATE, () -> x.at(0, 0));
    }

    private static void droppedAsInBase(Checks c) {
        ObjectMerge x = headHas(5);
        int t = x.session();
        x.set(t, 0, 2, 0);
        x.join(t);
        x.drop(1, 0);
        c.due("the head has all as in the base, again", x.join(1), 0);
        c.refused("it is gone", Checks.STATE, () -> x.at(0, 0));
    }

    private static void droppedButChanged(Checks c) {
        for (int field = 0; field < 6; field++) {
            ObjectMerge x = Checks.withObjects(1);
            int s = x.session();
            int t = x.session();
            x.set(s, 0, field, 5);
            x.join(s);
            x.drop(t, 0);
            c.due("changed in field " + field, x.join(t), 1);
            c.due("6", x.conflict(0, 1), 6);
            c.refused("one alone", Checks.INDEX, () -> x.conflict(1, 0));
        }
    }

    private static void changedButDropped(Checks c) {
        ObjectMerge x = headDropped();
        x.set(1, 0, 0, 1);
        x.set(1, 0, 5, 1);
        c.due("one, not one a field", x.join(1), 1);
        c.due("its object", x.conflict(0, 0), 0);
        c.due("6", x.conflict(0, 1), 6);
    }

    private static void madeAndDropped(Checks c) {
        ObjectMerge x = Checks.withObjects(1);
        int s = x.session();
        int made = x.make(s, 0);
        x.set(s, made, 0, 3);
        x.drop(s, made);
        c.due("no conflict", x.join(s), 0);
        c.refused("the head has it not", Checks.STATE, () -> x.at(made, 0));
        c.due("no difference", x.difference(1, 2, 0), NONE);
    }

    private static void sideOfHead(Checks c) {
        ObjectMerge x = headHas(5);
        x.set(1, 0, 2, 6);
        x.set(1, 0, 3, 7);
        x.join(1);
        x.settle(0, 0);
        c.due("joined", x.join(1), 0);
        c.due("the head's value", x.at(0, 2), 5);
        c.due("the field without a conflict", x.at(0, 3), 7);
    }

    private static void sideOfSession(Checks c) {
        ObjectMerge x = headHas(5);
        x.set(1, 0, 2, 6);
        x.join(1);
        x.settle(0, 1);
        c.due("joined", x.join(1), 0);
        c.due("the session's value", x.at(0, 2), 6);
        ObjectMerge y = headHas(5);
        y.set(1, 0, 2, 6);
        y.join(1);
        y.settle(0, 1);
        y.set(1, 0, 2, 8);
        c.due("joined behind a further set", y.join(1), 0);
        c.due("the value that it has then", y.at(0, 2), 8);
    }

    private static void comesBack(Checks c) {
        ObjectMerge x = Checks.withObjects(1);
        int s = x.session();
        x.set(s, 0, 1, 4);
        x.join(s);
        int t = x.session();
        int u = x.session();
        x.drop(t, 0);
        x.join(t);
        x.set(u, 0, 5, 9);
        c.due("a conflict", x.join(u), 1);
        x.settle(0, 1);
        c.due("joined", x.join(u), 0);
        c.due("what it has set", x.at(0, 5), 9);
        c.due("and what it has of its base", x.at(0, 1), 4);
        c.due("and no more", x.at(0, 0), 0);
    }

    private static void goes(Checks c) {
        ObjectMerge x = headHas(5);
        x.drop(1, 0);
        x.join(1);
        x.settle(0, 1);
        c.due("joined", x.join(1), 0);
        c.refused("it is gone", Checks.STATE, () -> x.at(0, 2));
    }

    private static void headKeepsWhole(Checks c) {
        ObjectMerge x = headHas(5);
        x.drop(1, 0);
        x.join(1);
        x.settle(0, 0);
        c.due("joined", x.join(1), 0);
        c.due("the head has it still", x.at(0, 2), 5);
        ObjectMerge y = headDropped();
        y.set(1, 0, 2, 6);
        y.join(1);
        y.settle(0, 0);
        c.due("joined where the head has it not", y.join(1), 0);
        c.refused("the head has it not", Checks.STATE, () -> y.at(0, 2));
    }

    private static void nothingChanges(Checks c) {
        ObjectMerge x = headHas(5);
        x.lock(1, 90, 90, 99, 99);
        x.mark(0, 3);
        x.set(1, 0, 2, 6);
        x.set(1, 0, 3, 7);
        int made = x.make(1, 0);
        c.due("a conflict", x.join(1), 1);
        c.due("no version", x.version(), 2);
        c.due("no field", x.at(0, 3), 0);
        c.refused("no object", Checks.STATE, () -> x.at(made, 0));
        c.due("marks stay", x.mark(0, 3), 1);
        c.due("locks stay", x.lock(x.session(), 99, 99, 99, 99), false);
        c.due("the session is as it was", x.set(1, 0, 3, 7), false);
        c.due("what it did can be undone", x.undo(1) && x.undo(1) && x.undo(1), true);
    }

    private static void versionWithoutChange(Checks c) {
        ObjectMerge x = Checks.withObjects(1);
        int s = x.session();
        c.due("joined", x.join(s), 0);
        c.due("a version", x.version(), 2);
        c.due("without a difference", x.difference(1, 2, 0), NONE);
        ObjectMerge y = headHas(5);
        y.set(1, 0, 2, 6);
        y.join(1);
        y.settle(0, 0);
        c.due("joined by side 0", y.join(1), 0);
        c.due("a version, too", y.version(), 3);
        c.due("without a difference, too", y.difference(2, 3, 0), NONE);
    }

    private static void closes(Checks c) {
        ObjectMerge x = headHas(5);
        c.refused("session 0", Checks.STATE, () -> x.set(0, 0, 2, 6));
        c.due("session 1 is open", x.set(1, 0, 2, 6), true);
    }

    private static void locksGo(Checks c) {
        ObjectMerge x = Checks.withObjects(1);
        int s = x.session();
        int t = x.session();
        int u = x.session();
        x.lock(s, 0, 0, 5, 5);
        x.lock(s, 10, 0, 15, 5);
        x.lock(t, 20, 0, 25, 5);
        c.due("barred", x.drop(u, 0), false);
        x.join(s);
        c.due("the first is gone", x.lock(u, 5, 5, 5, 5), true);
        c.due("the second is gone", x.lock(u, 10, 0, 10, 0), true);
        c.due("another session's is not", x.lock(u, 20, 0, 20, 0), false);
        c.due("barred no more", x.drop(u, 0), true);
    }

    private static void counts(Checks c) {
        ObjectMerge x = Checks.withObjects(2);
        int s = x.session();
        int t = x.session();
        for (int f = 0; f < 6; f++) {
            x.set(s, 0, f, 1);
            x.set(t, 0, f, 2);
        }
        x.set(s, 1, 0, 1);
        x.drop(t, 1);
        c.due("0", x.join(s), 0);
        for (int left = 7; left > 0; left--) {
            c.due("left", x.join(t), left);
            x.settle(7 - left, left % 2);
        }
        c.due("none is left", x.join(t), 0);
        c.refused("so it is joined", Checks.STATE, () -> x.join(t));
    }

    private static void countsMany(Checks c) {
        ObjectMerge x = new ObjectMerge();
        int m = x.session();
        for (int i = 0; i < 60; i++) {
            x.make(m, 0);
        }
        x.join(m);
        int s = x.session();
        int t = x.session();
        for (int i = 0; i < 60; i++) {
            for (int f = 2; f < 5; f++) {
                x.set(s, i, f, 1);
                x.set(t, i, f, 2);
            }
        }
        x.join(s);
        c.due("three of each object", x.join(t), 180);
        c.due("the object of the last", x.conflict(179, 0), 59);
        c.due("its field", x.conflict(179, 1), 4);
        x.settle(179, 0);
        c.due("one less", x.join(t), 179);
    }

    private static void noVersionLeft(Checks c) {
        ObjectMerge x = Checks.withObjects(37);
        int s = x.session();
        int t = x.session();
        int u = x.session();
        x.set(s, 0, 0, 1);
        x.set(t, 0, 0, 2);
        c.due("the 39th version", x.join(s), 0);
        x.object(0);
        c.due("the 40th", x.version(), 39);
        c.due("NONE with a conflict", x.join(t), NONE);
        c.due("NONE without one", x.join(u), NONE);
        c.due("no version", x.version(), 39);
        c.due("the session is open", x.set(u, 0, 0, 8), true);
        c.due("the head is as it was", x.at(0, 0), 1);
    }

    private static void lastVersion(Checks c) {
        ObjectMerge x = Checks.withObjects(38);
        int s = x.session();
        int t = x.session();
        c.due("the 40th version by a join", x.join(s), 0);
        c.due("its number", x.version(), 39);
        c.due("no 41st", x.join(t), NONE);
    }

    private static void noSession(Checks c) {
        ObjectMerge x = Checks.withObjects(1);
        c.refusedOutside("without sessions, session", 0, Checks.INDEX, x::join);
        x.session();
        x.session();
        c.refusedOutside("session", 2, Checks.INDEX, x::join);
        c.due("no version", x.version(), 1);
        ObjectMerge full = Checks.withObjects(39);
        c.refusedOutside("with 40 versions, session", 0, Checks.INDEX, full::join);
    }

    private static void notOpen(Checks c) {
        ObjectMerge x = Checks.withObjects(38);
        int s = x.session();
        c.due("joined", x.join(s), 0);
        c.refused("joined before, and 40 versions", Checks.STATE, () -> x.join(s));
        ObjectMerge y = Checks.withObjects(1);
        y.play(1, 1);
        c.refused("joined by play", Checks.STATE, () -> y.join(0));
        c.due("no version", y.version(), 2);
    }
}
