/** Edges of promise 15 (difference). */
final class DifferenceEdges {
    private static final int NONE = ObjectMerge.NONE;

    static void all(Edges e) {
        e.edge(15, "The k-th difference of two versions, by objects, then FIELDS", DifferenceEdges::order);
        e.edge(15, "8 times the object and the FIELD in which they differ", DifferenceEdges::everyField);
        e.edge(15, "8 times the object and the FIELD in which they differ", DifferenceEdges::lastObject);
        e.edge(15, "or 6 when one of them has it, the other one not", DifferenceEdges::oneHasIt);
        e.edge(15, "NONE, when there are not so many", DifferenceEdges::notSoMany);
        e.edge(15, "(or k is below 0)", DifferenceEdges::belowZero);
        e.edge(15, "IndexOutOfBoundsException, when there are no such versions", DifferenceEdges::noVersions);
        e.edge(15, "at most 40", DifferenceEdges::lastVersion);
    }

    private static void order(Checks c) {
        ObjectMerge x = Checks.withObjects(3);
        int s = x.session();
        x.set(s, 2, 5, 1);
        x.set(s, 2, 0, 1);
        x.set(s, 0, 3, 1);
        x.drop(s, 1);
        x.make(s, 0);
        x.join(s);
        int[] want = {3, 8 + 6, 16, 16 + 5, 24 + 6, NONE};
        for (int k = 0; k < want.length; k++) {
            c.due("3 and 4, k " + k, x.difference(3, 4, k), want[k]);
            c.due("4 and 3, k " + k, x.difference(4, 3, k), want[k]);
        }
    }

    private static void everyField(Checks c) {
        ObjectMerge x = Checks.withObjects(2);
        int s = x.session();
        for (int f = 0; f < 6; f++) {
            x.set(s, 1, f, f % 2 == 0 ? Long.MIN_VALUE : 1L << 32);
        }
        x.join(s);
        for (int f = 0; f < 6; f++) {
            c.due("field " + f, x.difference(2, 3, f), 8 + f);
        }
        c.due("no more", x.difference(2, 3, 6), NONE);
    }

    private static void lastObject(Checks c) {
        ObjectMerge x = new ObjectMerge();
        int s = x.session();
        for (int i = 0; i < 60; i++) {
            x.make(s, 0);
        }
        x.join(s);
        int t = x.session();
        x.set(t, 59, 5, 1);
        x.join(t);
        c.due("the last field of the last object", x.difference(1, 2, 0), 8 * 59 + 5);
        c.due("the last object itself", x.difference(0, 2, 59), 8 * 59 + 6);
        c.due("no more", x.difference(0, 2, 60), NONE);
    }

    private static void oneHasIt(Checks c) {
        ObjectMerge x = Checks.withObjects(1);
        int s = x.session();
        x.set(s, 0, 0, 1);
        x.join(s);
        c.due("6 alone, not its fields", x.difference(0, 2, 0), 6);
        c.due("no more", x.difference(0, 2, 1), NONE);
        c.due("the other way", x.difference(2, 0, 0), 6);
        int t = x.session();
        x.drop(t, 0);
        x.join(t);
        c.due("dropped", x.difference(2, 3, 0), 6);
        c.due("neither has it", x.difference(0, 3, 0), NONE);
    }

    private static void notSoMany(Checks c) {
        ObjectMerge x = Checks.withObjects(2);
        c.due("the last of two", x.difference(0, 2, 1), 8 + 6);
        c.due("no third", x.difference(0, 2, 2), NONE);
        c.due("MAX", x.difference(0, 2, Integer.MAX_VALUE), NONE);
        c.due("of a version and itself", x.difference(2, 2, 0), NONE);
    }

    private static void belowZero(Checks c) {
        ObjectMerge x = Checks.withObjects(2);
        c.due("k 0", x.difference(0, 2, 0), 6);
        c.due("k -1", x.difference(0, 2, -1), NONE);
        c.due("k MIN", x.difference(0, 2, Integer.MIN_VALUE), NONE);
    }

    private static void noVersions(Checks c) {
        ObjectMerge x = Checks.withObjects(2);
        c.due("the last version", x.difference(2, 1, 0), 8 + 6);
        c.refusedOutside("the first", 3, Checks.INDEX, v -> x.difference(v, 0, 0));
        c.refusedOutside("the other", 3, Checks.INDEX, v -> x.difference(0, v, 0));
        c.refusedOutside("both", 3, Checks.INDEX, v -> x.difference(v, v, 0));
        c.refusedOutside("k below 0, the other", 3, Checks.INDEX, v -> x.difference(0, v, -1));
    }

    private static void lastVersion(Checks c) {
        ObjectMerge x = Checks.withObjects(39);
        c.due("version 39", x.difference(39, 38, 0), 8 * 38 + 6);
        c.refusedOutside("with 40 versions, the first", 40, Checks.INDEX, v -> x.difference(v, 0, 0));
        c.refusedOutside("with 40 versions, the other", 40, Checks.INDEX, v -> x.difference(0, v, 0));
    }
}
