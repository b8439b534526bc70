/** Edges of promises 1 (a new object), 2 (object), 10 (at), 14 (version). */
final class ObjectEdges {
    private static final int NONE = ObjectMerge.NONE;

    static void all(Edges e) {
        e.edge(1, "Version 0 alone", ObjectEdges::versionZeroAlone);
        e.edge(1, "VERSIONS are numbered from 0 (without objects)", ObjectEdges::versionZeroIsEmpty);
        e.edge(1, "The constants: `NONE = -1`: There is none", c -> c.due("NONE", NONE, -1));
        e.edge(2, "VERSIONS are numbered from 0 (without objects), at most 40", ObjectEdges::fortyVersions);
        e.edge(2, "or 40 versions", ObjectEdges::noVersionLeft);
        e.edge(2, "OBJECTS have numbers from 0, at most 60", ObjectEdges::sixtyNumbers);
        e.edge(2, "also those of sessions that are not joined", ObjectEdges::numbersOfSessions);
        e.edge(2, "NONE when there are 60", ObjectEdges::noNumberLeft);
        e.edge(2, "a kind (0 .. 9)", ObjectEdges::kinds);
        e.edge(2, "IllegalArgumentException, when it is no kind", ObjectEdges::noKind);
        e.edge(2, "A new object in a new VERSION, otherwise like the HEAD: its number", ObjectEdges::otherwiseLikeHead);
        e.edge(2, "FIELDS 0 .. 5, longs, all 0 at first", ObjectEdges::fieldsAtFirst);
        e.edge(10, "A FIELD of an object in the HEAD", ObjectEdges::fieldsOfTheHead);
        e.edge(10, "FIELDS 0 .. 5, longs", ObjectEdges::longs);
        e.edge(10, "IndexOutOfBoundsException, when there is no such object", ObjectEdges::atNoObject);
        e.edge(10, "IndexOutOfBoundsException, when there is no such object, or field", ObjectEdges::atNoField);
        e.edge(10, "IllegalStateException, when the HEAD has it not", ObjectEdges::atNotInHead);
        e.edge(10, "a version has an object, or not: a dropped one it has not", ObjectEdges::atDropped);
        e.edge(14, "The number of the HEAD", ObjectEdges::numberOfHead);
        e.edge(14, "the HEAD is the latest one", ObjectEdges::latestIsHead);
        e.edge(14, "at most 40", ObjectEdges::lastNumber);
    }

    private static void versionZeroAlone(Checks c) {
        ObjectMerge x = new ObjectMerge();
        c.due("version", x.version(), 0);
        c.due("difference of 0 and 0", x.difference(0, 0, 0), NONE);
        c.refused("no version 1", Checks.INDEX, () -> x.difference(0, 1, 0));
        c.refused("no branch of 1", Checks.INDEX, () -> x.branch(1));
        c.refused("no session", Checks.INDEX, () -> x.join(0));
        c.refused("no object", Checks.INDEX, () -> x.at(0, 0));
        c.refused("no conflict", Checks.INDEX, () -> x.conflict(0, 0));
        c.due("no violation", x.violation(0, 0), NONE);
    }

    private static void versionZeroIsEmpty(Checks c) {
        ObjectMerge x = Checks.withObjects(1);
        int s = x.branch(0);
        c.refused("version 0 has no object", Checks.STATE, () -> x.set(s, 0, 0, 1));
        c.due("0 and 1 differ in the object", x.difference(0, 1, 0), 6);
    }

    private static void fortyVersions(Checks c) {
        ObjectMerge x = new ObjectMerge();
        for (int i = 0; i < 39; i++) {
            c.due("object " + i, x.object(0), i);
        }
        c.due("the 40th version", x.version(), 39);
        c.due("it can be read", x.difference(38, 39, 0), 8 * 38 + 6);
        c.due("no 41st", x.object(0), NONE);
    }

    private static void noVersionLeft(Checks c) {
        ObjectMerge x = Checks.withObjects(39);
        int s = x.session();
        c.due("NONE", x.object(9), NONE);
        c.due("no version came", x.version(), 39);
        c.refused("no number was spent", Checks.INDEX, () -> x.at(39, 0));
        c.due("the next number is 39", x.make(s, 0), 39);
    }

    private static void sixtyNumbers(Checks c) {
        ObjectMerge x = Checks.withObjects(30);
        int s = x.session();
        for (int i = 30; i < 59; i++) {
            c.due("make " + i, x.make(s, 0), i);
        }
        c.due("the 60th", x.object(0), 59);
        c.due("no 61st", x.object(0), NONE);
        c.due("object 59 is there", x.at(59, 5), 0);
    }

    private static void numbersOfSessions(Checks c) {
        ObjectMerge x = new ObjectMerge();
        int s = x.session();
        int t = x.session();
        for (int i = 0; i < 60; i++) {
            c.due("make " + i, x.make(i % 2 == 0 ? s : t, 0), i);
        }
        c.due("none of them is joined, all count", x.object(0), NONE);
    }

    private static void noNumberLeft(Checks c) {
        ObjectMerge x = new ObjectMerge();
        int s = x.session();
        for (int i = 0; i < 60; i++) {
            x.make(s, 0);
        }
        c.due("NONE", x.object(0), NONE);
        c.due("no version came", x.version(), 0);
        x.drop(s, 59);
        c.due("NONE behind a drop", x.object(0), NONE);
        x.join(s);
        c.due("NONE behind the join", x.object(0), NONE);
        c.due("one version came by the join", x.version(), 1);
    }

    private static void kinds(Checks c) {
        ObjectMerge x = new ObjectMerge();
        c.due("kind 0", x.object(0), 0);
        c.due("kind 9", x.object(9), 1);
    }

    private static void noKind(Checks c) {
        ObjectMerge x = new ObjectMerge();
        c.refusedOutside("kind", 10, Checks.ARGUMENT, x::object);
        c.due("no version came", x.version(), 0);
        c.due("no number was spent", x.object(0), 0);
        ObjectMerge full = Checks.withObjects(39);
        c.refusedOutside("with 40 versions, kind", 10, Checks.ARGUMENT, full::object);
    }

    private static void otherwiseLikeHead(Checks c) {
        ObjectMerge x = Checks.withObjects(2);
        int s = x.session();
        x.set(s, 0, 5, 7);
        x.drop(s, 1);
        x.join(s);
        c.due("its number", x.object(3), 2);
        c.due("a new version", x.version(), 4);
        c.due("the new object", x.difference(3, 4, 0), 16 + 6);
        c.due("and nothing else", x.difference(3, 4, 1), NONE);
        c.due("a field as before", x.at(0, 5), 7);
        c.refused("a dropped one as before", Checks.STATE, () -> x.at(1, 0));
    }

    private static void fieldsAtFirst(Checks c) {
        ObjectMerge x = Checks.withObjects(1);
        int s = x.session();
        int made = x.make(s, 0);
        for (int f = 0; f < 6; f++) {
            c.due("made in a session, field " + f, x.set(s, made, f, 0), false);
        }
        x.join(s);
        for (int f = 0; f < 6; f++) {
            c.due("field " + f, x.at(0, f), 0);
            c.due("made, field " + f, x.at(made, f), 0);
        }
    }

    private static void fieldsOfTheHead(Checks c) {
        ObjectMerge x = Checks.withObjects(2);
        int s = x.session();
        for (int f = 0; f < 6; f++) {
            x.set(s, 1, f, 10 + f);
        }
        c.due("a session's value is not the head's", x.at(1, 0), 0);
        x.join(s);
        for (int f = 0; f < 6; f++) {
            c.due("field " + f, x.at(1, f), 10 + f);
            c.due("the other object, field " + f, x.at(0, f), 0);
        }
    }

    private static void longs(Checks c) {
        ObjectMerge x = Checks.withObjects(1);
        int s = x.session();
        long[] values = {Long.MIN_VALUE, Long.MAX_VALUE, 1L << 32, -1, 1L << 31, Long.MIN_VALUE + 1};
        for (int f = 0; f < 6; f++) {
            c.due("set " + values[f], x.set(s, 0, f, values[f]), true);
        }
        x.join(s);
        for (int f = 0; f < 6; f++) {
            c.due("field " + f, x.at(0, f), values[f]);
        }
    }

    private static void atNoObject(Checks c) {
        ObjectMerge x = Checks.withObjects(2);
        c.due("the last object", x.at(1, 0), 0);
        c.refusedOutside("object", 2, Checks.INDEX, i -> x.at(i, 0));
        ObjectMerge none = new ObjectMerge();
        c.refusedOutside("without objects, object", 0, Checks.INDEX, i -> none.at(i, 0));
    }

    private static void atNoField(Checks c) {
        ObjectMerge x = Checks.withObjects(1);
        c.due("field 0", x.at(0, 0), 0);
        c.due("field 5", x.at(0, 5), 0);
        c.refusedOutside("field", 6, Checks.INDEX, i -> x.at(0, i));
    }

    private static void atNotInHead(Checks c) {
        ObjectMerge x = Checks.withObjects(1);
        int s = x.session();
        int made = x.make(s, 0);
        c.refused("made, not joined", Checks.STATE, () -> x.at(made, 0));
        x.drop(s, 0);
        c.due("dropped, not joined", x.at(0, 0), 0);
        x.join(s);
        c.due("made and joined", x.at(made, 0), 0);
        c.refused("dropped and joined", Checks.STATE, () -> x.at(0, 0));
    }

    private static void atDropped(Checks c) {
        ObjectMerge x = Checks.withObjects(1);
        int s = x.session();
        x.drop(s, 0);
        x.join(s);
        c.due("the head has it not, version 1 has", x.difference(1, 2, 0), 6);
        int later = x.session();
        c.refused("a later session has it not", Checks.STATE, () -> x.set(later, 0, 0, 1));
        int earlier = x.branch(1);
        c.due("version 1 has it still", x.set(earlier, 0, 0, 1), true);
    }

    private static void numberOfHead(Checks c) {
        ObjectMerge x = new ObjectMerge();
        c.due("at first", x.version(), 0);
        x.object(0);
        c.due("behind an object", x.version(), 1);
        int s = x.session();
        x.set(s, 0, 0, 1);
        x.make(s, 0);
        c.due("a session makes no version", x.version(), 1);
        x.join(s);
        c.due("a join does", x.version(), 2);
        x.play(1, 3);
        c.due("play does", x.version(), 3);
    }

    private static void latestIsHead(Checks c) {
        ObjectMerge x = Checks.withObjects(1);
        int s = x.branch(0);
        int made = x.make(s, 0);
        x.join(s);
        c.due("behind the join of an old branch", x.version(), 2);
        c.due("it has the object of version 1", x.at(0, 0), 0);
        c.due("and the one that was made", x.at(made, 0), 0);
    }

    private static void lastNumber(Checks c) {
        ObjectMerge x = Checks.withObjects(39);
        int s = x.session();
        c.due("40 versions", x.version(), 39);
        x.object(0);
        x.join(s);
        x.play(1, 1);
        c.due("still 39", x.version(), 39);
    }
}
