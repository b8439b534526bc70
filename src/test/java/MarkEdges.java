/** Edges of promise 19 (mark). */
final class MarkEdges {
    static void all(Edges e) {
        e.edge(19, "A person (0 .. 31) marks an object of the HEAD", MarkEdges::persons);
        e.edge(19, "how many have marked it", MarkEdges::howMany);
        e.edge(19, "(Marks go, when a join changes", MarkEdges::goWhenChanged);
        e.edge(19, "when a join changes", MarkEdges::stayOtherwise);
        e.edge(19, "when a join changes", MarkEdges::goBySides);
        e.edge(19, "or drops it", MarkEdges::goWhenDropped);
        e.edge(19, "IndexOutOfBoundsException, when there is no such object", MarkEdges::noObject);
        e.edge(19, "IndexOutOfBoundsException, when there is no such object, or the HEAD has it not", MarkEdges::notInHead);
        e.edge(19, "IllegalArgumentException, when it is no person", MarkEdges::noPerson);
    }

    private static void persons(Checks c) {
        ObjectMerge x = Checks.withObjects(2);
        c.due("person 0", x.mark(0, 0), 1);
        c.due("person 31", x.mark(0, 31), 2);
        c.due("person 31 of the last object", x.mark(1, 31), 1);
    }

    private static void howMany(Checks c) {
        ObjectMerge x = Checks.withObjects(2);
        for (int p = 31; p >= 0; p--) {
            c.due("person " + p, x.mark(0, p), 32 - p);
            c.due("again", x.mark(0, p), 32 - p);
        }
        c.due("all 32 have", x.mark(0, 15), 32);
        c.due("not the other object", x.mark(1, 15), 1);
    }

    private static void goWhenChanged(Checks c) {
        for (int field = 0; field < 6; field++) {
            ObjectMerge x = Checks.withObjects(2);
            int s = x.session();
            x.mark(0, 1);
            x.mark(1, 1);
            x.set(s, 0, field, 5);
            c.due("a session alone changes no marks", x.mark(0, 2), 2);
            x.join(s);
            c.due("changed in field " + field, x.mark(0, 3), 1);
            c.due("not changed", x.mark(1, 3), 2);
        }
        ObjectMerge y = Checks.withObjects(1);
        y.mark(0, 1);
        c.due("play", y.play(3, 100) > 0, true);
        c.due("changed by play", y.mark(0, 2), 1);
    }

    private static void stayOtherwise(Checks c) {
        ObjectMerge x = Checks.withObjects(1);
        int s = x.session();
        int t = x.session();
        x.set(s, 0, 2, 5);
        x.set(t, 0, 2, 5);
        x.join(s);
        x.mark(0, 0);
        x.join(t);
        c.due("the head had that value", x.mark(0, 1), 2);
        x.object(0);
        c.due("a version by object()", x.mark(0, 2), 3);
        x.join(x.session());
        c.due("a join without changes", x.mark(0, 3), 4);
        x.play(1, 0);
        c.due("a play without turns", x.mark(0, 4), 5);
        int u = x.branch(1);
        x.set(u, 0, 2, 9);
        c.due("a conflict", x.join(u), 1);
        c.due("not joined", x.mark(0, 5), 6);
    }

    private static void goBySides(Checks c) {
        for (int side = 0; side < 2; side++) {
            ObjectMerge x = Checks.withObjects(1);
            int s = x.session();
            int t = x.session();
            x.set(s, 0, 2, 5);
            x.set(t, 0, 2, 6);
            x.join(s);
            x.mark(0, 0);
            x.join(t);
            x.settle(0, side);
            x.join(t);
            c.due("side " + side, x.mark(0, 1), 2 - side);
        }
    }

    private static void goWhenDropped(Checks c) {
        ObjectMerge x = Checks.withObjects(2);
        int s = x.session();
        int t = x.session();
        x.mark(0, 1);
        x.mark(1, 1);
        x.drop(s, 0);
        x.join(s);
        x.set(t, 0, 3, 8);
        x.join(t);
        x.settle(0, 1);
        c.due("it comes back", x.join(t), 0);
        c.due("without marks", x.mark(0, 2), 1);
        c.due("the other one keeps its", x.mark(1, 2), 2);
    }

    private static void noObject(Checks c) {
        ObjectMerge x = Checks.withObjects(2);
        c.due("the last object", x.mark(1, 0), 1);
        c.refusedOutside("object", 2, Checks.INDEX, i -> x.mark(i, 0));
        c.refusedOutside("no person either, object", 2, Checks.INDEX, i -> x.mark(i, 32));
    }

    private static void notInHead(Checks c) {
        ObjectMerge x = Checks.withObjects(1);
        int s = x.session();
        int made = x.make(s, 0);
        x.drop(s, 0);
        c.refused("made, not joined", Checks.INDEX, () -> x.mark(made, 0));
        c.refused("made, not joined, and no person", Checks.INDEX, () -> x.mark(made, 32));
        c.due("dropped, not joined", x.mark(0, 0), 1);
        x.join(s);
        c.due("made and joined", x.mark(made, 0), 1);
        c.refused("dropped and joined", Checks.INDEX, () -> x.mark(0, 0));
    }

    private static void noPerson(Checks c) {
        ObjectMerge x = Checks.withObjects(1);
        c.refusedOutside("person", 32, Checks.ARGUMENT, p -> x.mark(0, p));
        c.due("none of them marked it", x.mark(0, 0), 1);
    }
}
