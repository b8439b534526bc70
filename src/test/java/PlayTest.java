/** Promise 18 (play), each play against the same draws made here with session(), set() and join(). */
public final class PlayTest {
    private static final Checks c = new Checks("PlayTest");
    private static long s;

    public static void main(String[] args) {
        refusals();
        without();
        for (long seed = -20; seed < 20; seed++) {
            likeSets(seed * 987654321987L, 100, false);
            likeSets(seed, (int) (seed + 20), true);
        }
        afterwards();
        c.end();
    }

    private static int draw(int bound) {
        s = s * 6364136223846793005L + 1442695040888963407L;
        return (int) ((s >>> 33) % bound);
    }

    private static void refusals() {
        ObjectMerge x = new ObjectMerge();
        x.object(0);
        c.refused("turns -1", Checks.ARGUMENT, () -> x.play(1, -1));
        c.refused("turns 101", Checks.ARGUMENT, () -> x.play(1, 101));
        c.refused("turns MIN", Checks.ARGUMENT, () -> x.play(1, Integer.MIN_VALUE));
        c.due("no turns", x.play(1, 0), 0);
        c.due("a version all the same", x.version(), 2);
        c.due("and a session", x.session(), 1);
        for (int i = 2; i < 20; i++) {
            x.session();
        }
        c.due("20 sessions", x.play(1, 10), -1);
        c.due("nothing is done", x.version(), 2);
        c.refused("turns before NONE", Checks.ARGUMENT, () -> x.play(1, 101));
    }

    private static void without() {
        ObjectMerge x = new ObjectMerge();
        c.due("play without an object", x.play(7, 100), 0);
        c.due("a version all the same", x.version(), 1);
        int t = x.session();
        x.make(t, 0);
        c.due("play with a number, but no object", x.play(7, 100), 0);
        x.object(0);
        c.due("play with half the numbers", x.play(7, 100) > 0, true);
    }

    private static ObjectMerge some(boolean locked) {
        ObjectMerge x = new ObjectMerge();
        for (int i = 0; i < 4; i++) {
            x.object(0);
        }
        int t = x.session();
        x.make(t, 0);
        x.drop(t, 1);
        x.join(t);
        int u = x.session();
        x.make(u, 0);
        if (locked) {
            x.lock(u, 0, 0, 40, 40);
            x.lock(u, 0, 60, 100, 80);
        }
        return x;
    }

    private static void likeSets(long seed, int turns, boolean locked) {
        ObjectMerge played = some(locked);
        ObjectMerge set = some(locked);
        int t = set.session();
        int want = 0;
        s = seed;
        for (int i = 0; i < turns; i++) {
            int object = draw(6);
            if (object == 1 || object == 5) {
                continue;
            }
            int field = draw(6);
            if (set.set(t, object, field, draw(100))) {
                want++;
            }
        }
        set.join(t);
        c.due("play(" + seed + ", " + turns + ")", played.play(seed, turns), want);
        for (int object = 0; object < 5; object++) {
            for (int field = 0; field < 6 && object != 1; field++) {
                c.due("at(" + object + ", " + field + ")", played.at(object, field), set.at(object, field));
            }
        }
    }

    private static void afterwards() {
        ObjectMerge x = some(false);
        int before = x.version();
        x.play(11, 50);
        c.due("one version", x.version(), before + 1);
        c.refused("its session is closed", Checks.STATE, () -> x.undo(2));
        c.due("the next session", x.session(), 3);
    }
}
