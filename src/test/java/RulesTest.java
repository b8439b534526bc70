/** Promises 12 (apart), 13 (violation). */
public final class RulesTest {
    private static final Checks c = new Checks("RulesTest");

    public static void main(String[] args) {
        refusals();
        mostRules();
        distances();
        far();
        order();
        c.end();
    }

    private static void place(ObjectMerge x, int object, long px, long py) {
        int s = x.session();
        x.set(s, object, 0, px);
        x.set(s, object, 1, py);
        x.join(s);
    }

    private static void refusals() {
        ObjectMerge x = Checks.withObjects(2);
        c.refused("object 2", Checks.INDEX, () -> x.apart(2, 0, 1));
        c.refused("object 2 as the other", Checks.INDEX, () -> x.apart(0, 2, 1));
        c.refused("object -1", Checks.INDEX, () -> x.apart(-1, 0, 1));
        c.refused("object -1 as the other", Checks.INDEX, () -> x.apart(0, -1, 1));
        c.refused("distance -1", Checks.ARGUMENT, () -> x.apart(0, 1, -1));
        c.refused("distance 1,000,000,001", Checks.ARGUMENT, () -> x.apart(0, 1, 1000000001L));
        c.refused("distance MIN", Checks.ARGUMENT, () -> x.apart(0, 1, Long.MIN_VALUE));
        c.refused("object before distance", Checks.INDEX, () -> x.apart(0, 2, -1));
        c.refused("distance before one object", Checks.ARGUMENT, () -> x.apart(0, 0, -1));
        c.due("one object", x.apart(1, 1, 5), false);
        c.due("distance 0", x.apart(0, 1, 0), true);
        c.due("it holds", x.violation(0, 0), -1);
        c.due("distance 1,000,000,000", x.apart(0, 1, 1000000000L), true);
        c.due("it does not hold", x.violation(0, 0), 0);
        c.due("the other", x.violation(0, 1), 1);
        c.refused("which 2", Checks.INDEX, () -> x.violation(0, 2));
        c.refused("which -1", Checks.INDEX, () -> x.violation(0, -1));
        c.refused("which 2 where there is none", Checks.INDEX, () -> x.violation(5, 2));
        c.refused("which 2 below 0", Checks.INDEX, () -> x.violation(-1, 2));
        c.due("k -1", x.violation(-1, 0), -1);
        c.due("k MIN", x.violation(Integer.MIN_VALUE, 1), -1);
        c.due("k 1", x.violation(1, 1), -1);
    }

    private static void mostRules() {
        ObjectMerge x = Checks.withObjects(2);
        for (int i = 0; i < 20; i++) {
            c.due("one object is no rule " + i, x.apart(0, 0, 1), false);
            c.due("rule " + i, x.apart(i % 2, 1 - i % 2, 1 + i), true);
        }
        c.due("no 21st", x.apart(0, 1, 1), false);
        c.refused("wrong distance", Checks.ARGUMENT, () -> x.apart(0, 1, -1));
        c.due("violation 19", x.violation(19, 0), 1);
        c.due("violation 19, other", x.violation(19, 1), 0);
        c.due("no violation 20", x.violation(20, 0), -1);
    }

    private static void distances() {
        ObjectMerge x = Checks.withObjects(2);
        x.apart(0, 1, 7);
        place(x, 0, 3, 0);
        c.due("3 and 0", x.violation(0, 0), 0);
        place(x, 0, 3, 3);
        c.due("3 and 3", x.violation(0, 0), 0);
        place(x, 0, 3, 4);
        c.due("3 and 4 together", x.violation(0, 0), -1);
        place(x, 0, -3, 4);
        c.due("-3 and 4 together", x.violation(0, 0), -1);
        place(x, 0, -3, -3);
        c.due("-3 and -3", x.violation(0, 0), 0);
        place(x, 1, -3, -10);
        c.due("7 along y", x.violation(0, 0), -1);
        place(x, 1, 3, -3);
        c.due("6 along x", x.violation(0, 0), 0);
    }

    private static void far() {
        ObjectMerge x = Checks.withObjects(2);
        x.apart(0, 1, 1000000000L);
        place(x, 0, Long.MIN_VALUE, 0);
        place(x, 1, Long.MAX_VALUE, 0);
        c.due("as far as can be along x", x.violation(0, 0), -1);
        place(x, 0, Long.MIN_VALUE, Long.MAX_VALUE);
        place(x, 1, Long.MAX_VALUE, Long.MIN_VALUE);
        c.due("as far as can be", x.violation(0, 0), -1);
        place(x, 0, 0, Long.MIN_VALUE);
        place(x, 1, 0, 0);
        c.due("MIN along y", x.violation(0, 0), -1);
        place(x, 0, Long.MAX_VALUE, Long.MAX_VALUE);
        c.due("MAX along both", x.violation(0, 0), -1);
        place(x, 0, 500000000L, -499999999L);
        c.due("1 too near", x.violation(0, 0), 0);
        place(x, 0, 500000000L, -500000000L);
        c.due("just so", x.violation(0, 0), -1);
    }

    private static void order() {
        ObjectMerge x = Checks.withObjects(3);
        int s = x.session();
        int made = x.make(s, 0);
        c.due("a made one, not joined", x.apart(made, 0, 5), true);
        x.apart(2, 1, 5);
        x.apart(0, 1, 5);
        x.apart(1, 2, 6);
        c.due("the head has the made one not", x.violation(0, 0), 2);
        c.due("second", x.violation(1, 0), 0);
        c.due("second, other", x.violation(1, 1), 1);
        c.due("third", x.violation(2, 0), 1);
        c.due("third, other", x.violation(2, 1), 2);
        c.due("no fourth", x.violation(3, 0), -1);
        x.drop(s, 2);
        c.due("dropped in a session only", x.violation(0, 0), 2);
        x.join(s);
        c.due("the made one is first", x.violation(0, 0), made);
        c.due("then 0", x.violation(1, 0), 0);
        c.due("a dropped one keeps no rule broken", x.violation(2, 0), -1);
    }
}
