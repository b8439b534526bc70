/** Promise 15 (difference). */
public final class DifferenceTest {
    private static final Checks c = new Checks("DifferenceTest");

    public static void main(String[] args) {
        ObjectMerge x = new ObjectMerge();
        x.object(0);
        x.object(1);
        x.object(2);
        int s = x.session();
        x.set(s, 2, 5, 1);
        x.set(s, 0, 3, 1);
        x.set(s, 0, 0, Long.MIN_VALUE);
        x.drop(s, 1);
        x.make(s, 3);
        x.set(s, 3, 2, 5);
        x.join(s);
        int[] want = {0, 3, 8 + 6, 16 + 5, 24 + 6};
        for (int k = 0; k < want.length; k++) {
            c.due("difference(3, 4, " + k + ")", x.difference(3, 4, k), want[k]);
            c.due("difference(4, 3, " + k + ")", x.difference(4, 3, k), want[k]);
        }
        c.due("no more", x.difference(3, 4, want.length), -1);
        c.due("k -1", x.difference(3, 4, -1), -1);
        c.due("k MIN", x.difference(3, 4, Integer.MIN_VALUE), -1);
        c.due("k MAX", x.difference(3, 4, Integer.MAX_VALUE), -1);
        c.due("none with itself", x.difference(4, 4, 0), -1);
        c.refused("a 5", Checks.INDEX, () -> x.difference(5, 0, 0));
        c.refused("b 5", Checks.INDEX, () -> x.difference(0, 5, 0));
        c.refused("a -1", Checks.INDEX, () -> x.difference(-1, 0, 0));
        c.refused("b -1", Checks.INDEX, () -> x.difference(0, -1, 0));
        c.refused("b 5 and k -1", Checks.INDEX, () -> x.difference(0, 5, -1));
        int t = x.session();
        x.set(t, 0, 3, 0);
        x.join(t);
        c.due("back again", x.difference(3, 5, 0), 0);
        c.due("back again: the next", x.difference(3, 5, 1), 8 + 6);
        c.due("old versions stay", x.difference(3, 4, 1), 3);
        c.due("from version 0", x.difference(0, 5, 0), 6);
        c.due("an object that neither has", x.difference(0, 5, 1), 16 + 6);
        allOfThem();
        c.end();
    }

    private static void allOfThem() {
        ObjectMerge x = new ObjectMerge();
        int s = x.session();
        for (int i = 0; i < 60; i++) {
            x.make(s, 0);
        }
        x.join(s);
        int t = x.session();
        for (int i = 0; i < 60; i++) {
            for (int f = 0; f < 6; f++) {
                x.set(t, i, f, 1);
            }
        }
        x.join(t);
        c.due("the last of 360", x.difference(1, 2, 359), 8 * 59 + 5);
        c.due("no 361st", x.difference(1, 2, 360), -1);
        c.due("the last of 60", x.difference(0, 2, 59), 8 * 59 + 6);
        c.due("no 61st", x.difference(2, 0, 60), -1);
    }
}
