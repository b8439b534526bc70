import java.math.BigInteger;
import java.util.ArrayDeque;
import java.util.ArrayList;
import java.util.Arrays;
import java.util.Deque;
import java.util.HashMap;
import java.util.HashSet;
import java.util.List;
import java.util.Map;
import java.util.Set;
import java.util.TreeMap;

/** The document once more, written for plainness alone: whole copies of every state, nothing shared. */
final class PlainModel {
    private static final class Open {
        TreeMap<Integer, long[]> base;
        TreeMap<Integer, long[]> now;
        boolean open = true;
        final Deque<TreeMap<Integer, long[]>> before = new ArrayDeque<>();
        final Map<List<Integer>, Integer> sides = new HashMap<>();

        void remember() {
            before.addLast(copy(now));
            if (before.size() > 40) {
                before.removeFirst();
            }
        }
    }

    private final List<TreeMap<Integer, long[]>> versions = new ArrayList<>();
    private final List<Open> sessions = new ArrayList<>();
    private final List<long[]> locks = new ArrayList<>();
    private final List<long[]> rules = new ArrayList<>();
    private final Map<Integer, Set<Integer>> marks = new HashMap<>();
    private List<List<Integer>> conflicts = new ArrayList<>();
    private Open joined;
    private int numbers;

    PlainModel() {
        versions.add(new TreeMap<>());
    }

    private static TreeMap<Integer, long[]> copy(TreeMap<Integer, long[]> state) {
        TreeMap<Integer, long[]> other = new TreeMap<>();
        state.forEach((object, fields) -> other.put(object, fields.clone()));
        return other;
    }

    private TreeMap<Integer, long[]> head() {
        return versions.get(versions.size() - 1);
    }

    private static void index(boolean holds) {
        if (!holds) {
            throw new IndexOutOfBoundsException();
        }
    }

    private static void state(boolean holds) {
        if (!holds) {
            throw new IllegalStateException();
        }
    }

    private static void argument(boolean holds) {
        if (!holds) {
            throw new IllegalArgumentException();
        }
    }

    private static boolean within(long v, long low, long high) {
        return v >= low && v <= high;
    }

    private Open session(int s) {
        index(within(s, 0, sessions.size() - 1));
        return sessions.get(s);
    }

    int object(int kind) {
        argument(within(kind, 0, 9));
        if (numbers == 60 || versions.size() == 40) {
            return -1;
        }
        TreeMap<Integer, long[]> next = copy(head());
        next.put(numbers, new long[6]);
        versions.add(next);
        return numbers++;
    }

    int branch(int version) {
        index(within(version, 0, versions.size() - 1));
        if (sessions.size() == 20) {
            return -1;
        }
        Open o = new Open();
        o.base = copy(versions.get(version));
        o.now = copy(o.base);
        sessions.add(o);
        return sessions.size() - 1;
    }

    int session() {
        return branch(versions.size() - 1);
    }

    private boolean barred(int s, long[] fields) {
        return locks.stream().anyMatch(l -> l[0] != s
                && within(fields[0], l[1], l[3]) && within(fields[1], l[2], l[4]));
    }

    boolean set(int s, int object, int field, long v) {
        Open o = session(s);
        index(within(object, 0, numbers - 1) && within(field, 0, 5));
        state(o.open && o.now.containsKey(object));
        if (barred(s, o.now.get(object)) || o.now.get(object)[field] == v) {
            return false;
        }
        o.remember();
        o.now.get(object)[field] = v;
        return true;
    }

    boolean drop(int s, int object) {
        Open o = session(s);
        index(within(object, 0, numbers - 1));
        state(o.open && o.now.containsKey(object));
        if (barred(s, o.now.get(object))) {
            return false;
        }
        o.remember();
        o.now.remove(object);
        return true;
    }

    int make(int s, int kind) {
        Open o = session(s);
        state(o.open);
        argument(within(kind, 0, 9));
        if (numbers == 60) {
            return -1;
        }
        o.remember();
        o.now.put(numbers, new long[6]);
        return numbers++;
    }

    boolean undo(int s) {
        Open o = session(s);
        state(o.open);
        if (o.before.isEmpty()) {
            return false;
        }
        o.now = o.before.removeLast();
        return true;
    }

    int join(int s) {
        Open o = session(s);
        state(o.open);
        if (versions.size() == 40) {
            return -1;
        }
        joined = o;
        conflicts = new ArrayList<>();
        TreeMap<Integer, long[]> next = copy(head());
        for (int object = 0; object < numbers; object++) {
            joinObject(o, object, next);
        }
        int left = 0;
        for (List<Integer> conflict : conflicts) {
            left += o.sides.containsKey(conflict) ? 0 : 1;
        }
        if (left > 0) {
            return left;
        }
        for (int object = 0; object < numbers; object++) {
            if (!Arrays.equals(head().get(object), next.get(object))) {
                marks.remove(object);
            }
        }
        versions.add(next);
        o.open = false;
        locks.removeIf(l -> l[0] == s);
        return 0;
    }

    /** Whether the session's part of a conflict is taken, told as a conflict at once. */
    private boolean sessionWins(Open o, int object, int field) {
        conflicts.add(List.of(object, field));
        return o.sides.getOrDefault(List.of(object, field), 0) == 1;
    }

    private void joinObject(Open o, int object, TreeMap<Integer, long[]> next) {
        long[] was = o.base.get(object);
        long[] mine = o.now.get(object);
        long[] theirs = next.get(object);
        if (was == null) {
            if (mine != null) {
                next.put(object, mine.clone());
            }
        } else if (mine == null) {
            boolean free = theirs == null || Arrays.equals(theirs, was);
            if (free || sessionWins(o, object, 6)) {
                next.remove(object);
            }
        } else if (Arrays.equals(mine, was)) {
            return;
        } else if (theirs == null) {
            if (sessionWins(o, object, 6)) {
                next.put(object, mine.clone());
            }
        } else {
            for (int f = 0; f < 6; f++) {
                boolean conflict = theirs[f] != was[f] && theirs[f] != mine[f];
                if (mine[f] != was[f] && (!conflict || sessionWins(o, object, f))) {
                    theirs[f] = mine[f];
                }
            }
        }
    }

    int conflict(int k, int what) {
        index(within(k, 0, conflicts.size() - 1) && within(what, 0, 2));
        return what < 2 ? conflicts.get(k).get(what) : joined.sides.getOrDefault(conflicts.get(k), -1);
    }

    boolean settle(int k, int side) {
        index(within(k, 0, conflicts.size() - 1));
        state(joined.open);
        argument(within(side, 0, 1));
        Integer old = joined.sides.put(conflicts.get(k), side);
        return old == null || old != side;
    }

    long at(int object, int field) {
        index(within(object, 0, numbers - 1) && within(field, 0, 5));
        state(head().containsKey(object));
        return head().get(object)[field];
    }

    boolean lock(int s, long x0, long y0, long x1, long y1) {
        state(session(s).open);
        if (x0 > x1 || y0 > y1 || locks.size() == 10) {
            return false;
        }
        for (long[] l : locks) {
            boolean beside = l[3] < x0 || x1 < l[1] || l[4] < y0 || y1 < l[2];
            if (l[0] != s && !beside) {
                return false;
            }
        }
        return locks.add(new long[] {s, x0, y0, x1, y1});
    }

    boolean apart(int a, int b, long distance) {
        index(within(a, 0, numbers - 1) && within(b, 0, numbers - 1));
        argument(within(distance, 0, 1000000000L));
        return a != b && rules.size() < 20 && rules.add(new long[] {a, b, distance});
    }

    private static BigInteger gap(long[] a, long[] b, int field) {
        return BigInteger.valueOf(a[field]).subtract(BigInteger.valueOf(b[field])).abs();
    }

    int violation(int k, int which) {
        index(within(which, 0, 1));
        List<long[]> broken = new ArrayList<>();
        for (long[] rule : rules) {
            long[] a = head().get((int) rule[0]);
            long[] b = head().get((int) rule[1]);
            if (a != null && b != null
                    && gap(a, b, 0).add(gap(a, b, 1)).compareTo(BigInteger.valueOf(rule[2])) < 0) {
                broken.add(rule);
            }
        }
        return within(k, 0, broken.size() - 1) ? (int) broken.get(k)[which] : -1;
    }

    int version() {
        return versions.size() - 1;
    }

    int difference(int a, int b, int k) {
        index(within(a, 0, version()) && within(b, 0, version()));
        List<Integer> found = new ArrayList<>();
        for (int object = 0; object < numbers; object++) {
            long[] left = versions.get(a).get(object);
            long[] right = versions.get(b).get(object);
            if ((left == null) != (right == null)) {
                found.add(8 * object + 6);
            }
            for (int f = 0; f < 6 && left != null && right != null; f++) {
                if (left[f] != right[f]) {
                    found.add(8 * object + f);
                }
            }
        }
        return within(k, 0, found.size() - 1) ? found.get(k) : -1;
    }

    int play(long seed, int turns) {
        argument(within(turns, 0, 100));
        if (sessions.size() == 20 || versions.size() == 40) {
            return -1;
        }
        int s = session();
        long drawn = seed;
        int done = 0;
        for (int i = 0; i < turns && numbers > 0; i++) {
            drawn = drawn * 6364136223846793005L + 1442695040888963407L;
            int object = (int) ((drawn >>> 33) % numbers);
            if (!sessions.get(s).now.containsKey(object)) {
                continue;
            }
            drawn = drawn * 6364136223846793005L + 1442695040888963407L;
            int field = (int) ((drawn >>> 33) % 6);
            drawn = drawn * 6364136223846793005L + 1442695040888963407L;
            done += set(s, object, field, (drawn >>> 33) % 100) ? 1 : 0;
        }
        join(s);
        return done;
    }

    int mark(int object, int person) {
        index(within(object, 0, numbers - 1) && head().containsKey(object));
        argument(within(person, 0, 31));
        Set<Integer> who = marks.computeIfAbsent(object, o -> new HashSet<>());
        who.add(person);
        return who.size();
    }
}
