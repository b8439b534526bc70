import java.math.BigInteger;

/** Edges of promise 18 (play), each play held against draws that are made here in numbers without a bound. */
final class PlayEdges {
    private static final int NONE = ObjectMerge.NONE;

    static void all(Edges e) {
        e.edge(18, "A new SESSION like session() that sets so many times (0 .. 100) what is DRAWN, and is joined",
                PlayEdges::turns);
        e.edge(18, "A new SESSION like session()", PlayEdges::newSession);
        e.edge(18, "and is joined", PlayEdges::isJoined);
        e.edge(18, "how many times set() would have answered true", PlayEdges::counts);
        e.edge(18, "how many times set() would have answered true", PlayEdges::countsNoBarred);
        e.edge(18, "NONE when it can't begin", PlayEdges::cannotBegin);
        e.edge(18, "NONE when it can't begin, or be joined", PlayEdges::cannotBeJoined);
        e.edge(18, "(then nothing is done)", PlayEdges::nothingIsDone);
        e.edge(18, "For a DRAW s, at first the seed, becomes s * 6364136223846793005 + 1442695040888963407 (which wraps)",
                PlayEdges::seeds);
        e.edge(18, "and s shifted right by 33, without sign, is drawn", PlayEdges::firstDraw);
        e.edge(18, "an object (mod how many numbers there are", PlayEdges::numbersThereAre);
        e.edge(18, "an object (mod how many numbers there are", PlayEdges::noNumbers);
        e.edge(18, "of one that it has not nothing else is drawn)", PlayEdges::notThere);
        e.edge(18, "a field (mod 6), a value (mod 100)", PlayEdges::fieldsAndValues);
        e.edge(18, "IllegalArgumentException, when turns are not so", PlayEdges::noTurns);
    }

    /** The document's DRAW, with the wrap written out. */
    private static final class Drawn {
        private static final BigInteger ALL = BigInteger.ONE.shiftLeft(64);
        private BigInteger s;

        Drawn(long seed) {
            s = BigInteger.valueOf(seed).mod(ALL);
        }

        int below(int n) {
            s = s.multiply(new BigInteger("6364136223846793005")).add(new BigInteger("1442695040888963407")).mod(ALL);
            return s.shiftRight(33).mod(BigInteger.valueOf(n)).intValue();
        }
    }

    /** What play() does, by session(), set() and join(): its answer. */
    private static int bySets(ObjectMerge x, long seed, int turns, int numbers, int missing) {
        Drawn drawn = new Drawn(seed);
        int s = x.session();
        int done = 0;
        for (int i = 0; i < turns; i++) {
            int object = drawn.below(numbers);
            if (object == missing) {
                continue;
            }
            int field = drawn.below(6);
            done += x.set(s, object, field, drawn.below(100)) ? 1 : 0;
        }
        x.join(s);
        return done;
    }

    private static void alike(Checks c, String what, ObjectMerge played, ObjectMerge set, int objects) {
        for (int object = 0; object < objects; object++) {
            for (int f = 0; f < 6; f++) {
                c.due(what + ", object " + object + ", field " + f, played.at(object, f), set.at(object, f));
            }
        }
    }

    private static void likeSets(Checks c, long seed, int turns, int objects) {
        ObjectMerge played = Checks.withObjects(objects);
        ObjectMerge set = Checks.withObjects(objects);
        String what = "play(" + seed + ", " + turns + ")";
        c.due(what, played.play(seed, turns), bySets(set, seed, turns, objects, NONE));
        alike(c, what, played, set, objects);
    }

    private static void turns(Checks c) {
        likeSets(c, 12345, 0, 3);
        likeSets(c, 12345, 1, 3);
        likeSets(c, 12345, 99, 3);
        likeSets(c, 12345, 100, 3);
        ObjectMerge x = Checks.withObjects(1);
        c.due("no turns", x.play(1, 0), 0);
        c.due("but a version", x.version(), 2);
    }

    private static void newSession(Checks c) {
        ObjectMerge x = Checks.withObjects(1);
        x.session();
        x.play(1, 1);
        c.refused("session 1 was played and is closed", Checks.STATE, () -> x.undo(1));
        c.due("the next one", x.session(), 2);
        for (int i = 3; i < 19; i++) {
            x.session();
        }
        c.due("the 20th may be played", x.play(1, 0), 0);
        c.due("no 21st", x.session(), NONE);
    }

    private static void isJoined(Checks c) {
        ObjectMerge x = Checks.withObjects(38);
        c.due("the 40th version by play", x.play(5, 100) > 0, true);
        c.due("its number", x.version(), 39);
        c.due("it differs from the one before", x.difference(38, 39, 0) == NONE, false);
        c.refused("its session is closed", Checks.STATE, () -> x.join(0));
    }

    private static void counts(Checks c) {
        long alike = 0;
        for (long seed = 0; seed < 20; seed++) {
            ObjectMerge x = Checks.withObjects(1);
            int done = x.play(seed, 100);
            c.due("seed " + seed, done, bySets(Checks.withObjects(1), seed, 100, 1, NONE));
            alike += 100 - done;
        }
        c.due("some were the value that it had", alike > 0, true);
    }

    private static void countsNoBarred(Checks c) {
        ObjectMerge x = Checks.withObjects(1);
        int s = x.session();
        x.lock(s, 0, 0, 99, 99);
        c.due("barred at all places", x.play(7, 100), 0);
        c.due("a version all the same", x.version(), 2);
        ObjectMerge played = Checks.withObjects(1);
        ObjectMerge set = Checks.withObjects(1);
        played.lock(played.session(), 50, 0, 99, 99);
        set.lock(set.session(), 50, 0, 99, 99);
        c.due("barred at half of the places", played.play(7, 100), bySets(set, 7, 100, 1, NONE));
        alike(c, "barred at half of the places", played, set, 1);
    }

    private static void cannotBegin(Checks c) {
        ObjectMerge x = Checks.withObjects(1);
        for (int i = 0; i < 20; i++) {
            x.session();
        }
        c.due("20 sessions", x.play(1, 10), NONE);
        c.due("and without turns", x.play(1, 0), NONE);
        x.join(0);
        c.due("joined ones count", x.play(1, 10), NONE);
    }

    private static void cannotBeJoined(Checks c) {
        ObjectMerge x = Checks.withObjects(39);
        c.due("40 versions", x.play(1, 10), NONE);
        c.due("and without turns", x.play(1, 0), NONE);
    }

    private static void nothingIsDone(Checks c) {
        ObjectMerge x = Checks.withObjects(39);
        x.mark(0, 1);
        x.play(1, 100);
        c.due("no version", x.version(), 39);
        for (int object = 0; object < 39; object++) {
            c.due("object " + object, x.at(object, 0) | x.at(object, 3), 0);
        }
        c.due("marks stay", x.mark(0, 2), 2);
        c.due("no session was spent", x.session(), 0);
        ObjectMerge y = Checks.withObjects(1);
        for (int i = 0; i < 20; i++) {
            y.session();
        }
        y.play(1, 100);
        c.due("no version where it can't begin", y.version(), 1);
        c.due("no field either", y.at(0, 0) | y.at(0, 1) | y.at(0, 2) | y.at(0, 3) | y.at(0, 4) | y.at(0, 5), 0);
    }

    private static void seeds(Checks c) {
        long[] seeds = {0, 1, -1, Long.MAX_VALUE, Long.MIN_VALUE, 1L << 32, -(1L << 32), 6364136223846793005L};
        for (long seed : seeds) {
            likeSets(c, seed, 30, 4);
        }
    }

    /** One turn alone: seeds whose first draw has the sign, and others. */
    private static void firstDraw(Checks c) {
        for (long seed = -12; seed < 12; seed++) {
            likeSets(c, seed * 0x1234567890ABCDEFL, 1, 7);
        }
    }

    private static void numbersThereAre(Checks c) {
        ObjectMerge played = Checks.withObjects(3);
        ObjectMerge set = Checks.withObjects(3);
        for (ObjectMerge x : new ObjectMerge[] {played, set}) {
            x.make(x.session(), 0);
        }
        c.due("four numbers, three objects", played.play(99, 60), bySets(set, 99, 60, 4, 3));
        alike(c, "four numbers", played, set, 3);
        likeSets(c, 99, 60, 1);
        likeSets(c, 99, 60, 38);
    }

    private static void noNumbers(Checks c) {
        ObjectMerge x = new ObjectMerge();
        c.due("nothing is drawn", x.play(7, 100), 0);
        c.due("a version all the same", x.version(), 1);
    }

    private static void notThere(Checks c) {
        for (long seed = 0; seed < 10; seed++) {
            ObjectMerge played = Checks.withObjects(3);
            ObjectMerge set = Checks.withObjects(3);
            for (ObjectMerge x : new ObjectMerge[] {played, set}) {
                int s = x.session();
                x.drop(s, 2);
                x.join(s);
            }
            c.due("object 2 is dropped, seed " + seed, played.play(seed, 50), bySets(set, seed, 50, 3, 2));
            alike(c, "object 2 is dropped", played, set, 2);
        }
    }

    private static void fieldsAndValues(Checks c) {
        boolean[] fields = new boolean[6];
        boolean low = false;
        boolean high = false;
        for (long seed = 0; seed < 60; seed++) {
            ObjectMerge x = Checks.withObjects(1);
            x.play(seed * 0x1234567890ABCDEFL, 100);
            for (int f = 0; f < 6; f++) {
                long v = x.at(0, f);
                c.due("0 .. 99, seed " + seed + ", field " + f, v >= 0 && v < 100, true);
                fields[f] |= v != 0;
                low |= v == 0;
                high |= v == 99;
            }
        }
        for (int f = 0; f < 6; f++) {
            c.due("field " + f + " is set", fields[f], true);
        }
        c.due("0 and 99 are drawn", low && high, true);
    }

    private static void noTurns(Checks c) {
        ObjectMerge x = Checks.withObjects(1);
        c.refusedOutside("turns", 101, Checks.ARGUMENT, t -> x.play(1, t));
        c.due("no version", x.version(), 1);
        for (int i = 0; i < 20; i++) {
            c.due("no session was spent " + i, x.session(), i);
        }
        c.refusedOutside("with 20 sessions, turns", 101, Checks.ARGUMENT, t -> x.play(1, t));
        ObjectMerge full = Checks.withObjects(39);
        c.refusedOutside("with 40 versions, turns", 101, Checks.ARGUMENT, t -> full.play(1, t));
    }
}
