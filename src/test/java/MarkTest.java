/** Promise 19 (mark). */
public final class MarkTest {
    private static final Checks c = new Checks("MarkTest");

    public static void main(String[] args) {
        persons();
        refusals();
        joins();
        play();
        c.end();
    }

    private static void persons() {
        ObjectMerge x = new ObjectMerge();
        x.object(0);
        x.object(0);
        for (int p = 0; p < 32; p++) {
            c.due("person " + p, x.mark(0, p), p + 1);
            c.due("again", x.mark(0, p), p + 1);
        }
        c.due("another object", x.mark(1, 31), 1);
        x.object(0);
        c.due("a new version keeps marks", x.mark(0, 0), 32);
        c.due("a new object has none", x.mark(2, 5), 1);
    }

    private static void refusals() {
        ObjectMerge x = new ObjectMerge();
        x.object(0);
        c.refused("person -1", Checks.ARGUMENT, () -> x.mark(0, -1));
        c.refused("person 32", Checks.ARGUMENT, () -> x.mark(0, 32));
        c.refused("object 1", Checks.INDEX, () -> x.mark(1, 0));
        c.refused("object -1", Checks.INDEX, () -> x.mark(-1, 0));
        c.refused("object before person", Checks.INDEX, () -> x.mark(1, 32));
        int s = x.session();
        x.make(s, 0);
        c.refused("made, not joined", Checks.INDEX, () -> x.mark(1, 0));
        c.refused("made, not joined, person 32", Checks.INDEX, () -> x.mark(1, 32));
        x.drop(s, 0);
        c.due("dropped, not joined", x.mark(0, 0), 1);
        x.join(s);
        c.refused("dropped", Checks.INDEX, () -> x.mark(0, 0));
        c.due("made and joined", x.mark(1, 0), 1);
    }

    private static void joins() {
        ObjectMerge x = new ObjectMerge();
        x.object(0);
        x.object(0);
        int s = x.session();
        int t = x.session();
        int u = x.session();
        int w = x.session();
        x.set(s, 0, 2, 5);
        x.mark(0, 1);
        x.mark(1, 1);
        c.due("a session changes no marks", x.mark(0, 2), 2);
        x.join(s);
        c.due("changed: its marks are gone", x.mark(0, 3), 1);
        c.due("not changed: its marks stay", x.mark(1, 3), 2);
        x.set(t, 0, 2, 5);
        x.join(t);
        c.due("alike: its marks stay", x.mark(0, 4), 2);
        x.set(u, 0, 2, 6);
        c.due("a conflict", x.join(u), 1);
        c.due("not joined: its marks stay", x.mark(0, 5), 3);
        x.settle(0, 0);
        x.join(u);
        c.due("side 0: its marks stay", x.mark(0, 6), 4);
        x.set(w, 0, 2, 7);
        x.set(w, 1, 2, 7);
        x.join(w);
        x.settle(0, 1);
        x.join(w);
        c.due("side 1: its marks are gone", x.mark(0, 7), 1);
        c.due("the other one, too", x.mark(1, 7), 1);
        back(x);
    }

    private static void back(ObjectMerge x) {
        int s = x.session();
        int t = x.session();
        x.drop(s, 0);
        x.join(s);
        x.set(t, 0, 3, 8);
        x.join(t);
        x.settle(0, 1);
        x.join(t);
        c.due("back again, without marks", x.mark(0, 9), 1);
        c.due("the other one keeps its", x.mark(1, 9), 2);
    }

    private static void play() {
        ObjectMerge x = new ObjectMerge();
        x.object(0);
        x.mark(0, 1);
        x.play(3, 0);
        c.due("nothing played", x.mark(0, 2), 2);
        c.due("played", x.play(3, 100) > 0, true);
        c.due("its marks are gone", x.mark(0, 3), 1);
    }
}
