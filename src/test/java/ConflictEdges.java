/** Edges of promises 8 (conflict), 9 (settle). */
final class ConflictEdges {
    private static final int NONE = ObjectMerge.NONE;

    static void all(Edges e) {
        e.edge(8, "Of the k-th CONFLICT of the latest join()", ConflictEdges::latest);
        e.edge(8, "of the latest join()", ConflictEdges::untilTheNextJoin);
        e.edge(8, "(but NONE", ConflictEdges::notOfNone);
        e.edge(8, "play() joins, too", ConflictEdges::ofPlay);
        e.edge(8, "also SETTLED ones", ConflictEdges::settledOnes);
        e.edge(8, "by objects, then FIELDS", ConflictEdges::order);
        e.edge(8, "object (what 0), FIELD, or 6 (1)", ConflictEdges::objectAndField);
        e.edge(8, "the side by which it is SETTLED now, or NONE (2)", ConflictEdges::sideNow);
        e.edge(8, "IndexOutOfBoundsException, when there is none such", ConflictEdges::noConflict);
        e.edge(8, "IndexOutOfBoundsException, when there is none such, or what", ConflictEdges::noWhat);
        e.edge(9, "It is SETTLED by a side (0, 1)", ConflictEdges::sides);
        e.edge(9, "It is SETTLED by a side (0, 1)", ConflictEdges::sidesOfTheLastObjects);
        e.edge(9, "for the session of that join", ConflictEdges::ofThatSession);
        e.edge(9, "whether it was otherwise", ConflictEdges::otherwise);
        e.edge(9, "IndexOutOfBoundsException, when there is none such", ConflictEdges::settleNoConflict);
        e.edge(9, "IllegalStateException, when the session is not OPEN", ConflictEdges::settleNotOpen);
        e.edge(9, "IllegalArgumentException, when it is no side", ConflictEdges::noSide);
    }

    /** Sessions 0 .. n - 1 set object k, field k to 10 + k each; session 0 is joined and has set all to 5. */
    private static ObjectMerge clashing(int n) {
        ObjectMerge x = Checks.withObjects(n);
        for (int s = 0; s < n; s++) {
            x.session();
        }
        for (int k = 1; k < n; k++) {
            x.set(0, k, k, 5);
            x.set(k, k, k, 10 + k);
        }
        x.join(0);
        return x;
    }

    private static void tells(Checks c, ObjectMerge x, int k, int object, int field, int side) {
        c.due("object of " + k, x.conflict(k, 0), object);
        c.due("field of " + k, x.conflict(k, 1), field);
        c.due("side of " + k, x.conflict(k, 2), side);
    }

    private static void latest(Checks c) {
        ObjectMerge x = clashing(3);
        c.due("join 1", x.join(1), 1);
        tells(c, x, 0, 1, 1, NONE);
        c.due("join 2", x.join(2), 1);
        tells(c, x, 0, 2, 2, NONE);
        c.refused("a join that throws", Checks.STATE, () -> x.join(0));
        c.refused("another one", Checks.INDEX, () -> x.join(3));
        tells(c, x, 0, 2, 2, NONE);
        x.join(x.session());
        c.refused("a join without conflicts", Checks.INDEX, () -> x.conflict(0, 0));
        c.due("join 1 again", x.join(1), 1);
        tells(c, x, 0, 1, 1, NONE);
    }

    private static void untilTheNextJoin(Checks c) {
        ObjectMerge x = clashing(2);
        x.join(1);
        x.undo(1);
        tells(c, x, 0, 1, 1, NONE);
        x.object(0);
        tells(c, x, 0, 1, 1, NONE);
        c.due("a conflict no more", x.join(1), 0);
        c.refused("told no more", Checks.INDEX, () -> x.conflict(0, 0));
    }

    private static void notOfNone(Checks c) {
        ObjectMerge x = clashing(3);
        c.due("join 1", x.join(1), 1);
        while (x.version() < 39) {
            x.object(0);
        }
        c.due("join 2", x.join(2), NONE);
        tells(c, x, 0, 1, 1, NONE);
        c.due("play", x.play(1, 1), NONE);
        tells(c, x, 0, 1, 1, NONE);
        c.due("for session 1 still", x.settle(0, 1), true);
        tells(c, x, 0, 1, 1, 1);
    }

    private static void ofPlay(Checks c) {
        ObjectMerge x = clashing(2);
        x.join(1);
        tells(c, x, 0, 1, 1, NONE);
        c.due("play", x.play(1, 0), 0);
        c.refused("play had none", Checks.INDEX, () -> x.conflict(0, 0));
        c.refused("none to settle", Checks.INDEX, () -> x.settle(0, 0));
        x.join(1);
        c.refused("a play that throws", Checks.ARGUMENT, () -> x.play(1, 101));
        tells(c, x, 0, 1, 1, NONE);
    }

    private static void settledOnes(Checks c) {
        ObjectMerge x = Checks.withObjects(1);
        int s = x.session();
        int t = x.session();
        for (int f = 0; f < 3; f++) {
            x.set(s, 0, f, 1);
            x.set(t, 0, f, 2);
        }
        x.join(s);
        x.join(t);
        x.settle(1, 1);
        c.due("two are left", x.join(t), 2);
        tells(c, x, 0, 0, 0, NONE);
        tells(c, x, 1, 0, 1, 1);
        tells(c, x, 2, 0, 2, NONE);
        x.settle(0, 0);
        x.settle(2, 0);
        c.due("joined", x.join(t), 0);
        tells(c, x, 0, 0, 0, 0);
        tells(c, x, 1, 0, 1, 1);
        tells(c, x, 2, 0, 2, 0);
    }

    private static void order(Checks c) {
        ObjectMerge x = Checks.withObjects(4);
        int s = x.session();
        int t = x.session();
        int[][] fields = {{3, 5}, {3, 0}, {1, 4}, {0, 2}, {0, 1}};
        for (int[] f : fields) {
            x.set(s, f[0], f[1], 1);
            x.set(t, f[0], f[1], 2);
        }
        x.set(s, 2, 0, 1);
        x.drop(t, 2);
        x.join(s);
        c.due("six", x.join(t), 6);
        tells(c, x, 0, 0, 1, NONE);
        tells(c, x, 1, 0, 2, NONE);
        tells(c, x, 2, 1, 4, NONE);
        tells(c, x, 3, 2, 6, NONE);
        tells(c, x, 4, 3, 0, NONE);
        tells(c, x, 5, 3, 5, NONE);
    }

    /** Of 60 objects, 0, 58 and 59 are in conflict in the join of session 2. */
    private static ObjectMerge sixtyClashing() {
        ObjectMerge x = new ObjectMerge();
        int m = x.session();
        for (int i = 0; i < 60; i++) {
            x.make(m, 0);
        }
        x.join(m);
        int s = x.session();
        int t = x.session();
        x.set(s, 0, 0, 1);
        x.set(t, 0, 0, 2);
        x.drop(s, 58);
        x.set(t, 58, 0, 2);
        x.set(s, 59, 5, 1);
        x.set(t, 59, 5, 2);
        x.join(s);
        return x;
    }

    private static void objectAndField(Checks c) {
        ObjectMerge x = sixtyClashing();
        c.due("three", x.join(2), 3);
        tells(c, x, 0, 0, 0, NONE);
        tells(c, x, 1, 58, 6, NONE);
        tells(c, x, 2, 59, 5, NONE);
    }

    private static void sideNow(Checks c) {
        ObjectMerge x = clashing(2);
        x.join(1);
        c.due("not settled", x.conflict(0, 2), NONE);
        x.settle(0, 0);
        c.due("side 0", x.conflict(0, 2), 0);
        x.settle(0, 1);
        c.due("side 1", x.conflict(0, 2), 1);
        x.join(1);
        c.due("joined by side 1", x.conflict(0, 2), 1);
    }

    private static void noConflict(Checks c) {
        ObjectMerge x = clashing(2);
        c.refusedOutside("behind a join without any, k", 0, Checks.INDEX, k -> x.conflict(k, 0));
        x.join(1);
        c.due("the last one", x.conflict(0, 0), 1);
        for (int what = 0; what < 3; what++) {
            int w = what;
            c.refusedOutside("what " + w + ", k", 1, Checks.INDEX, k -> x.conflict(k, w));
        }
        ObjectMerge none = new ObjectMerge();
        c.refusedOutside("before any join, k", 0, Checks.INDEX, k -> none.conflict(k, 0));
    }

    private static void noWhat(Checks c) {
        ObjectMerge x = clashing(2);
        x.join(1);
        c.due("what 0", x.conflict(0, 0), 1);
        c.due("what 2", x.conflict(0, 2), NONE);
        c.refusedOutside("what", 3, Checks.INDEX, what -> x.conflict(0, what));
    }

    private static void sides(Checks c) {
        ObjectMerge x = clashing(2);
        x.join(1);
        c.due("side 0", x.settle(0, 0), true);
        x.join(1);
        c.due("the head's value", x.at(1, 1), 5);
        ObjectMerge y = clashing(2);
        y.join(1);
        c.due("side 1", y.settle(0, 1), true);
        y.join(1);
        c.due("the session's value", y.at(1, 1), 11);
    }

    private static void sidesOfTheLastObjects(Checks c) {
        ObjectMerge x = sixtyClashing();
        x.join(2);
        x.settle(1, 1);
        x.settle(2, 1);
        c.due("one is left", x.join(2), 1);
        tells(c, x, 0, 0, 0, NONE);
        tells(c, x, 1, 58, 6, 1);
        tells(c, x, 2, 59, 5, 1);
        x.settle(0, 0);
        c.due("joined", x.join(2), 0);
        c.due("side 0 of object 0", x.at(0, 0), 1);
        c.due("side 1 of object 58", x.at(58, 0), 2);
        c.due("side 1 of object 59", x.at(59, 5), 2);
    }

    private static void ofThatSession(Checks c) {
        ObjectMerge x = Checks.withObjects(1);
        int s = x.session();
        int t = x.session();
        int u = x.session();
        x.set(s, 0, 0, 1);
        x.set(t, 0, 0, 2);
        x.set(u, 0, 0, 3);
        x.join(s);
        x.join(t);
        x.settle(0, 1);
        c.due("the same conflict of another session", x.join(u), 1);
        tells(c, x, 0, 0, 0, NONE);
        c.due("settle it for that one", x.settle(0, 0), true);
        c.due("the first is settled still", x.join(t), 0);
        c.due("by its own side", x.at(0, 0), 2);
        tells(c, x, 0, 0, 0, 1);
    }

    private static void otherwise(Checks c) {
        ObjectMerge x = clashing(2);
        x.join(1);
        c.due("0, not settled before", x.settle(0, 0), true);
        c.due("0 again", x.settle(0, 0), false);
        c.due("1 behind 0", x.settle(0, 1), true);
        c.due("1 again", x.settle(0, 1), false);
        c.due("0 behind 1", x.settle(0, 0), true);
        ObjectMerge y = clashing(2);
        y.join(1);
        c.due("1, not settled before", y.settle(0, 1), true);
    }

    private static void settleNoConflict(Checks c) {
        ObjectMerge none = new ObjectMerge();
        c.refusedOutside("before any join, k", 0, Checks.INDEX, k -> none.settle(k, 0));
        ObjectMerge x = clashing(2);
        c.refusedOutside("behind a join without any, k", 0, Checks.INDEX, k -> x.settle(k, 0));
        x.join(1);
        c.refusedOutside("k", 1, Checks.INDEX, k -> x.settle(k, 0));
        c.refusedOutside("no side either, k", 1, Checks.INDEX, k -> x.settle(k, 2));
        c.due("nothing is settled", x.conflict(0, 2), NONE);
        x.settle(0, 0);
        x.join(1);
        c.refusedOutside("of a closed session, k", 1, Checks.INDEX, k -> x.settle(k, 0));
    }

    private static void settleNotOpen(Checks c) {
        ObjectMerge x = clashing(2);
        x.join(1);
        x.settle(0, 1);
        x.join(1);
        c.refused("joined", Checks.STATE, () -> x.settle(0, 0));
        c.refused("joined, the side it has", Checks.STATE, () -> x.settle(0, 1));
        c.refused("joined, and no side", Checks.STATE, () -> x.settle(0, 2));
        tells(c, x, 0, 1, 1, 1);
    }

    private static void noSide(Checks c) {
        ObjectMerge x = clashing(2);
        x.join(1);
        c.refusedOutside("side", 2, Checks.ARGUMENT, side -> x.settle(0, side));
        c.due("it is not settled", x.conflict(0, 2), NONE);
        c.due("nor joined", x.join(1), 1);
    }
}
