/** Edges of promises 12 (apart), 13 (violation). */
final class RuleEdges {
    private static final int NONE = ObjectMerge.NONE;
    private static final long FAR = 1000000000L;

    static void all(Edges e) {
        e.edge(12, "A RULE: true", RuleEdges::rule);
        e.edge(12, "false, when it is one object", RuleEdges::oneObject);
        e.edge(12, "RULES, at most 20", RuleEdges::twentyRules);
        e.edge(12, "or there are 20", RuleEdges::noRuleLeft);
        e.edge(12, "IndexOutOfBoundsException, when there are no such objects", RuleEdges::noObjects);
        e.edge(12, "IllegalArgumentException, when the distance is not 0 .. 1,000,000,000", RuleEdges::distances);
        e.edge(13, "the PLACES of two objects are apart, along x and y together, by a distance at least", RuleEdges::together);
        e.edge(13, "by a distance at least", RuleEdges::farthest);
        e.edge(13, "along x and y together", RuleEdges::noWrap);
        e.edge(13, "Of the k-th VIOLATION: the first object (which 0), the other one (1)", RuleEdges::firstAndOther);
        e.edge(13, "VIOLATIONS are those rules, in their order", RuleEdges::inTheirOrder);
        e.edge(13, "that do not hold in the HEAD", RuleEdges::inTheHead);
        e.edge(13, "of objects that it has", RuleEdges::ofObjectsThatItHas);
        e.edge(13, "NONE, when there are not so many (or k is below 0)", RuleEdges::notSoMany);
        e.edge(13, "(or k is below 0)", RuleEdges::belowZero);
        e.edge(13, "IndexOutOfBoundsException, for another which", RuleEdges::noWhich);
    }

    private static void place(ObjectMerge x, int object, long px, long py) {
        int s = x.session();
        x.set(s, object, 0, px);
        x.set(s, object, 1, py);
        x.join(s);
    }

    private static void rule(Checks c) {
        ObjectMerge x = Checks.withObjects(2);
        c.due("a rule", x.apart(0, 1, 1), true);
        c.due("the same again", x.apart(0, 1, 1), true);
        c.due("turned", x.apart(1, 0, 1), true);
        c.due("three violations", x.violation(2, 0), 1);
    }

    private static void oneObject(Checks c) {
        ObjectMerge x = Checks.withObjects(2);
        c.due("0 and 0", x.apart(0, 0, 5), false);
        c.due("1 and 1", x.apart(1, 1, 0), false);
        c.due("no violation", x.violation(0, 0), NONE);
        for (int i = 0; i < 20; i++) {
            c.due("it does not count " + i, x.apart(0, 1, 1), true);
        }
    }

    private static void twentyRules(Checks c) {
        ObjectMerge x = Checks.withObjects(2);
        for (int i = 0; i < 20; i++) {
            c.due("rule " + i, x.apart(i % 2, 1 - i % 2, 1), true);
        }
        c.due("no 21st", x.apart(0, 1, 1), false);
        c.due("the 20th is kept", x.violation(19, 0), 1);
    }

    private static void noRuleLeft(Checks c) {
        ObjectMerge x = Checks.withObjects(3);
        for (int i = 0; i < 20; i++) {
            x.apart(0, 1, 0);
        }
        c.due("false", x.apart(1, 2, 5), false);
        c.due("it is no rule", x.violation(0, 0), NONE);
        c.due("false again", x.apart(1, 2, 5), false);
    }

    private static void noObjects(Checks c) {
        ObjectMerge x = Checks.withObjects(2);
        c.refusedOutside("first object", 2, Checks.INDEX, i -> x.apart(i, 0, 1));
        c.refusedOutside("other object", 2, Checks.INDEX, i -> x.apart(0, i, 1));
        c.refusedOutside("both", 2, Checks.INDEX, i -> x.apart(i, i, 1));
        c.refusedOutside("no distance either, other object", 2, Checks.INDEX, i -> x.apart(0, i, -1));
        c.due("no violation", x.violation(0, 0), NONE);
        int s = x.session();
        c.due("an object of a session is one", x.apart(0, x.make(s, 0), 1), true);
        for (int i = 0; i < 19; i++) {
            x.apart(0, 1, 1);
        }
        c.refusedOutside("with 20 rules, other object", 3, Checks.INDEX, i -> x.apart(0, i, 1));
    }

    private static void distances(Checks c) {
        ObjectMerge x = Checks.withObjects(2);
        c.due("0", x.apart(0, 1, 0), true);
        c.due("1,000,000,000", x.apart(0, 1, FAR), true);
        long[] wrong = {-1, FAR + 1, Long.MIN_VALUE, Long.MAX_VALUE, 1L << 32};
        for (long d : wrong) {
            c.refused("distance " + d, Checks.ARGUMENT, () -> x.apart(0, 1, d));
            c.refused("one object, distance " + d, Checks.ARGUMENT, () -> x.apart(0, 0, d));
        }
        c.due("two rules, one of them broken", x.violation(1, 0), NONE);
        for (int i = 2; i < 20; i++) {
            c.due("the refused ones do not count " + i, x.apart(0, 1, 1), true);
        }
        c.refused("with 20 rules, distance -1", Checks.ARGUMENT, () -> x.apart(0, 1, -1));
    }

    private static void together(Checks c) {
        long[][] places = {{7, 0}, {0, 7}, {3, 4}, {-3, 4}, {3, -4}, {-3, -4}, {-7, 0}, {0, -7}};
        for (long[] p : places) {
            ObjectMerge x = Checks.withObjects(2);
            place(x, 0, p[0], p[1]);
            String at = p[0] + ", " + p[1] + " is apart by ";
            x.apart(0, 1, 7);
            c.due(at + 7, x.violation(0, 0), NONE);
            x.apart(0, 1, 8);
            c.due(at + "less than 8", x.violation(0, 0), 0);
        }
        ObjectMerge y = Checks.withObjects(2);
        y.apart(0, 1, 0);
        c.due("one place, distance 0", y.violation(0, 0), NONE);
        y.apart(0, 1, 1);
        c.due("one place, distance 1", y.violation(0, 0), 0);
    }

    private static void farthest(Checks c) {
        ObjectMerge x = Checks.withObjects(2);
        x.apart(0, 1, FAR);
        place(x, 0, FAR - 1, 0);
        c.due("1 too near along x", x.violation(0, 0), 0);
        place(x, 0, FAR, 0);
        c.due("just so along x", x.violation(0, 0), NONE);
        place(x, 0, 1, FAR - 2);
        c.due("1 too near along both", x.violation(0, 0), 0);
        place(x, 0, 1, 1 - FAR);
        c.due("just so along both", x.violation(0, 0), NONE);
        place(x, 0, 0, -FAR);
        c.due("just so along y", x.violation(0, 0), NONE);
        place(x, 0, 0, 1 - FAR);
        c.due("1 too near along y", x.violation(0, 0), 0);
        place(x, 0, FAR - 1, 1 - FAR);
        c.due("less along each, but together more", x.violation(0, 0), NONE);
    }

    private static void noWrap(Checks c) {
        long min = Long.MIN_VALUE;
        long max = Long.MAX_VALUE;
        long[][] places = {
            {min, 0, max, 0}, {max, 0, min, 0}, {0, min, 0, max}, {0, max, 0, min}, {min, 0, 0, 0}, {0, 0, 0, min},
            {max, max, 0, 0}, {min, min, 0, 0}, {min, max, max, min}, {1L << 62, 1L << 62, -(1L << 62), -(1L << 62)},
            {max, max, -1, -1}, {max, 2, 0, 0}, {min, 1, 0, 0}, {1L << 62, 1L << 62, 0, 0}, {-1, 0, max, 0},
        };
        for (long[] p : places) {
            ObjectMerge x = Checks.withObjects(2);
            place(x, 0, p[0], p[1]);
            place(x, 1, p[2], p[3]);
            x.apart(0, 1, FAR);
            c.due(p[0] + ", " + p[1] + " and " + p[2] + ", " + p[3], x.violation(0, 0), NONE);
        }
    }

    private static void firstAndOther(Checks c) {
        ObjectMerge x = Checks.withObjects(3);
        x.apart(2, 1, 5);
        c.due("the first object", x.violation(0, 0), 2);
        c.due("the other one", x.violation(0, 1), 1);
    }

    private static void inTheirOrder(Checks c) {
        ObjectMerge x = Checks.withObjects(4);
        place(x, 3, 100, 0);
        int[][] rules = {{2, 1}, {3, 0}, {0, 1}, {3, 1}, {1, 2}};
        for (int[] r : rules) {
            x.apart(r[0], r[1], 5);
        }
        c.due("the first", x.violation(0, 0), 2);
        c.due("the second, behind one that holds", x.violation(1, 0), 0);
        c.due("its other one", x.violation(1, 1), 1);
        c.due("the third", x.violation(2, 0), 1);
        c.due("no fourth", x.violation(3, 0), NONE);
    }

    private static void inTheHead(Checks c) {
        ObjectMerge x = Checks.withObjects(2);
        x.apart(0, 1, 5);
        int s = x.session();
        x.set(s, 0, 0, 5);
        c.due("moved in a session alone", x.violation(0, 0), 0);
        x.join(s);
        c.due("moved in the head", x.violation(0, 0), NONE);
        int t = x.session();
        x.set(t, 1, 0, 5);
        x.join(t);
        c.due("it can be broken by a join", x.violation(0, 1), 1);
    }

    private static void ofObjectsThatItHas(Checks c) {
        ObjectMerge x = Checks.withObjects(2);
        int s = x.session();
        int made = x.make(s, 0);
        x.apart(made, 0, 5);
        x.apart(1, made, 5);
        c.due("the head has one of the two not", x.violation(0, 0), NONE);
        x.drop(s, 0);
        x.join(s);
        c.due("now it has it, but 0 no more", x.violation(0, 0), 1);
        c.due("the other one", x.violation(0, 1), made);
        c.due("one alone", x.violation(1, 0), NONE);
    }

    private static void notSoMany(Checks c) {
        ObjectMerge x = Checks.withObjects(2);
        c.due("without rules", x.violation(0, 0), NONE);
        x.apart(0, 1, 1);
        x.apart(0, 1, 1);
        c.due("the last one", x.violation(1, 1), 1);
        c.due("no more", x.violation(2, 1), NONE);
        c.due("MAX", x.violation(Integer.MAX_VALUE, 0), NONE);
        for (int i = 2; i < 20; i++) {
            x.apart(0, 1, 1);
        }
        c.due("the last of 20", x.violation(19, 1), 1);
        c.due("no 21st", x.violation(20, 1), NONE);
    }

    private static void belowZero(Checks c) {
        ObjectMerge x = Checks.withObjects(2);
        x.apart(0, 1, 1);
        c.due("k 0", x.violation(0, 0), 0);
        c.due("k -1", x.violation(-1, 0), NONE);
        c.due("k MIN", x.violation(Integer.MIN_VALUE, 1), NONE);
    }

    private static void noWhich(Checks c) {
        ObjectMerge x = Checks.withObjects(2);
        x.apart(0, 1, 1);
        c.refusedOutside("which", 2, Checks.INDEX, w -> x.violation(0, w));
        c.refusedOutside("k 5, which", 2, Checks.INDEX, w -> x.violation(5, w));
        c.refusedOutside("k -1, which", 2, Checks.INDEX, w -> x.violation(-1, w));
    }
}
