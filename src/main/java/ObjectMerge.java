/**
 * Objects in versions that share what is alike, and sessions that change them and are joined.
 * The numbers in the comments are the promises of the document.
 */
public final class ObjectMerge {
    public static final int NONE = -1;

    private static final int MOST_OBJECTS = 60;
    private static final int MOST_VERSIONS = 40;
    private static final int MOST_SESSIONS = 20;
    private static final int MOST_CHANGES = 40;
    private static final int MOST_LOCKS = 10;
    private static final int MOST_RULES = 20;
    private static final int MOST_TURNS = 100;
    private static final int KINDS = 10;
    private static final int FIELDS = 6;
    private static final int PERSONS = 32;
    private static final int SIDES = 2;
    private static final long MOST_DISTANCE = 1000000000L;
    private static final int DRAWN_VALUES = 100;

    /** Stands where a field stands, when the matter is whether the object is there at all. */
    private static final int WHOLE = 6;
    private static final int MATTERS = 7;

    /** Conflicts and differences are told as this times the object, and the field. */
    private static final int OBJECT_STEP = 8;

    private final State[] versions = new State[MOST_VERSIONS];
    private int versionCount;
    private State head = new State();
    private final Session[] sessions = new Session[MOST_SESSIONS];
    private int sessionCount;
    private int objectCount;
    private final Locks locks = new Locks();
    private final Rule[] rules = new Rule[MOST_RULES];
    private int ruleCount;
    private final Conflicts conflicts = new Conflicts();
    private final int[] marks = new int[MOST_OBJECTS];

    /** 1 */
    public ObjectMerge() {
        versions[0] = head;
        versionCount = 1;
    }

    /** 2 */
    public int object(int kind) throws IllegalArgumentException {
        checkKind(kind);
        if (objectCount >= MOST_OBJECTS || versionCount >= MOST_VERSIONS) {
            return NONE;
        }
        int number = newNumber();
        State next = head.copy();
        next.put(number, new Row());
        addVersion(next);
        return number;
    }

    /** 3 */
    public int session() {
        return sessionCount >= MOST_SESSIONS ? NONE : begin(head).number;
    }

    /** 4 */
    public boolean set(int session, int object, int field, long v)
            throws IndexOutOfBoundsException, IllegalStateException {
        Session s = sessionOf(session);
        checkObject(object);
        checkField(field);
        checkOpen(s);
        return write(s, object, field, v, rowOf(s.now, object));
    }

    /** 5 */
    public boolean drop(int session, int object)
            throws IndexOutOfBoundsException, IllegalStateException {
        Session s = sessionOf(session);
        checkObject(object);
        checkOpen(s);
        if (locks.bar(s.number, rowOf(s.now, object))) {
            return false;
        }
        s.change(object, null);
        return true;
    }

    /** 6 */
    public int make(int session, int kind)
            throws IndexOutOfBoundsException, IllegalStateException, IllegalArgumentException {
        Session s = sessionOf(session);
        checkOpen(s);
        checkKind(kind);
        if (objectCount >= MOST_OBJECTS) {
            return NONE;
        }
        int number = newNumber();
        s.change(number, new Row());
        return number;
    }

    /** 7 */
    public int join(int session) throws IndexOutOfBoundsException, IllegalStateException {
        Session s = sessionOf(session);
        checkOpen(s);
        return versionCount >= MOST_VERSIONS ? NONE : tryJoin(s);
    }

    /** 8 */
    public int conflict(int k, int what) throws IndexOutOfBoundsException {
        Session s = sessionOfConflict(k);
        int object = conflicts.objectOf(k);
        int field = conflicts.fieldOf(k);
        switch (what) {
            case 0:
                return object;
            case 1:
                return field;
            case 2:
                return s.sideOf(object, field);
            default:
                throw new IndexOutOfBoundsException("what is 0, 1 or 2");
        }
    }

    /** 9 */
    public boolean settle(int k, int side)
            throws IndexOutOfBoundsException, IllegalStateException, IllegalArgumentException {
        Session s = sessionOfConflict(k);
        checkOpen(s);
        if (side < 0 || side >= SIDES) {
            throw new IllegalArgumentException("a side is 0 or 1");
        }
        int object = conflicts.objectOf(k);
        int field = conflicts.fieldOf(k);
        boolean otherwise = s.sideOf(object, field) != side;
        s.choose(object, field, side);
        return otherwise;
    }

    /** 10 */
    public long at(int object, int field) throws IndexOutOfBoundsException, IllegalStateException {
        checkObject(object);
        checkField(field);
        return rowOf(head, object).value(field);
    }

    /** 11 */
    public boolean lock(int person, long x0, long y0, long x1, long y1)
            throws IndexOutOfBoundsException, IllegalStateException {
        Session s = sessionOf(person);
        checkOpen(s);
        return x0 <= x1 && y0 <= y1 && locks.add(new Area(s.number, x0, y0, x1, y1));
    }

    /** 12 */
    public boolean apart(int objectA, int objectB, long distance)
            throws IndexOutOfBoundsException, IllegalArgumentException {
        checkObject(objectA);
        checkObject(objectB);
        if (distance < 0 || distance > MOST_DISTANCE) {
            throw new IllegalArgumentException("a distance is 0 .. 1,000,000,000");
        }
        if (objectA == objectB || ruleCount >= MOST_RULES) {
            return false;
        }
        rules[ruleCount] = new Rule(objectA, objectB, distance);
        ruleCount++;
        return true;
    }

    /** 13 */
    public int violation(int k, int which) throws IndexOutOfBoundsException {
        if (which != 0 && which != 1) {
            throw new IndexOutOfBoundsException("which is 0 or 1");
        }
        int found = 0;
        for (int i = 0; i < MOST_RULES; i++) {
            Rule rule = rules[i];
            if (rule == null || !rule.brokenIn(head)) {
                continue;
            }
            if (found == k) {
                return which == 0 ? rule.first : rule.other;
            }
            found++;
        }
        return NONE;
    }

    /** 14 */
    public int version() {
        return versionCount - 1;
    }

    /** 15 */
    public int difference(int a, int b, int k) throws IndexOutOfBoundsException {
        State left = versionOf(a);
        State right = versionOf(b);
        int found = 0;
        for (int object = 0; object < MOST_OBJECTS; object++) {
            for (int field = 0; field < MATTERS; field++) {
                if (!Row.differ(left.row(object), right.row(object), field)) {
                    continue;
                }
                if (found == k) {
                    return OBJECT_STEP * object + field;
                }
                found++;
            }
        }
        return NONE;
    }

    /** 16 */
    public boolean undo(int session) throws IndexOutOfBoundsException, IllegalStateException {
        Session s = sessionOf(session);
        checkOpen(s);
        return s.takeBack();
    }

    /** 17 */
    public int branch(int version) throws IndexOutOfBoundsException {
        State base = versionOf(version);
        return sessionCount >= MOST_SESSIONS ? NONE : begin(base).number;
    }

    /** 18 */
    public int play(long seed, int turns) throws IllegalArgumentException {
        if (turns < 0 || turns > MOST_TURNS) {
            throw new IllegalArgumentException("turns are 0 .. 100");
        }
        if (sessionCount >= MOST_SESSIONS || versionCount >= MOST_VERSIONS) {
            return NONE;
        }
        Session s = begin(head);
        Draw draw = new Draw(seed);
        int done = 0;
        for (int turn = 0; turn < turns; turn++) {
            if (playTurn(s, draw)) {
                done++;
            }
        }
        tryJoin(s);
        return done;
    }

    /** 19 */
    public int mark(int object, int person)
            throws IndexOutOfBoundsException, IllegalArgumentException {
        checkObject(object);
        if (head.row(object) == null) {
            throw new IndexOutOfBoundsException("the head has no such object");
        }
        if (person < 0 || person >= PERSONS) {
            throw new IllegalArgumentException("a person is 0 .. 31");
        }
        marks[object] |= 1 << person;
        return Integer.bitCount(marks[object]);
    }

    // ---- what the calls ask for, or refuse

    private Session sessionOf(int number) {
        Session s = number < 0 || number >= sessionCount ? null : sessions[number];
        if (s == null) {
            throw new IndexOutOfBoundsException("no such session");
        }
        return s;
    }

    private State versionOf(int number) {
        State version = number < 0 || number >= versionCount ? null : versions[number];
        if (version == null) {
            throw new IndexOutOfBoundsException("no such version");
        }
        return version;
    }

    private Session sessionOfConflict(int k) {
        Session s = conflicts.has(k) ? conflicts.owner : null;
        if (s == null) {
            throw new IndexOutOfBoundsException("no such conflict");
        }
        return s;
    }

    private static Row rowOf(State state, int object) {
        Row row = state.row(object);
        if (row == null) {
            throw new IllegalStateException("the object is not there");
        }
        return row;
    }

    private void checkObject(int object) {
        if (object < 0 || object >= objectCount) {
            throw new IndexOutOfBoundsException("no such object");
        }
    }

    private static void checkField(int field) {
        if (field < 0 || field >= FIELDS) {
            throw new IndexOutOfBoundsException("a field is 0 .. 5");
        }
    }

    private static void checkOpen(Session s) {
        if (!s.open) {
            throw new IllegalStateException("the session is not open");
        }
    }

    /** Kinds are not kept: no call asks for them again. */
    private static void checkKind(int kind) {
        if (kind < 0 || kind >= KINDS) {
            throw new IllegalArgumentException("a kind is 0 .. 9");
        }
    }

    // ---- steps that several calls share; each is called only while there is room for it

    private int newNumber() {
        int number = objectCount;
        objectCount++;
        return number;
    }

    private Session begin(State base) {
        Session s = new Session(sessionCount, base);
        if (sessionCount < MOST_SESSIONS) {
            sessions[sessionCount] = s;
            sessionCount++;
        }
        return s;
    }

    private void addVersion(State next) {
        if (versionCount < MOST_VERSIONS) {
            versions[versionCount] = next;
            versionCount++;
            head = next;
        }
    }

    private boolean write(Session s, int object, int field, long v, Row row) {
        if (row.value(field) == v || locks.bar(s.number, row)) {
            return false;
        }
        s.change(object, row.with(field, v));
        return true;
    }

    private boolean playTurn(Session s, Draw draw) {
        if (objectCount == 0) {
            return false;
        }
        int object = draw.below(objectCount);
        Row row = s.now.row(object);
        if (row == null) {
            return false;
        }
        int field = draw.below(FIELDS);
        long v = draw.below(DRAWN_VALUES);
        return write(s, object, field, v, row);
    }

    private int tryJoin(Session s) {
        conflicts.gather(s, head);
        int unsettled = conflicts.unsettled();
        if (unsettled == 0) {
            takeIn(s);
        }
        return unsettled;
    }

    private void takeIn(Session s) {
        State next = new State();
        for (int object = 0; object < MOST_OBJECTS; object++) {
            Row row = s.merged(object, head);
            next.put(object, row);
            if (!Row.alike(row, head.row(object))) {
                marks[object] = 0;
            }
        }
        addVersion(next);
        s.open = false;
        locks.release(s.number);
    }

    /** The fields of one object; never changed once made, so versions and sessions can share it. */
    private static final class Row {
        private final long[] values = new long[FIELDS];

        long value(int field) {
            return field < 0 || field >= FIELDS ? 0 : values[field];
        }

        Row with(int field, long v) {
            Row row = new Row();
            for (int f = 0; f < FIELDS; f++) {
                row.values[f] = f == field ? v : values[f];
            }
            return row;
        }

        /** No row at all (null) is an object that is not there. */
        static boolean alike(Row a, Row b) {
            if (a == b) {
                return true;
            }
            if (a == null || b == null) {
                return false;
            }
            for (int f = 0; f < FIELDS; f++) {
                if (a.values[f] != b.values[f]) {
                    return false;
                }
            }
            return true;
        }

        static boolean differ(Row a, Row b, int matter) {
            if (a == null || b == null) {
                return matter == WHOLE && a != b;
            }
            return matter >= 0 && matter < FIELDS && a.values[matter] != b.values[matter];
        }
    }

    /** What a version, or a session at present, has: a row for each object that is there. */
    private static final class State {
        private final Row[] rows = new Row[MOST_OBJECTS];

        Row row(int object) {
            return object < 0 || object >= MOST_OBJECTS ? null : rows[object];
        }

        void put(int object, Row row) {
            if (object >= 0 && object < MOST_OBJECTS) {
                rows[object] = row;
            }
        }

        State copy() {
            State other = new State();
            for (int object = 0; object < MOST_OBJECTS; object++) {
                other.rows[object] = rows[object];
            }
            return other;
        }
    }

    private static final class Session {
        final int number;
        final State base;
        final State now;
        boolean open = true;
        private final Changes changes = new Changes();
        /** By object and matter: 0 while it is not settled, else the side and 1. */
        private final byte[] sides = new byte[MOST_OBJECTS * MATTERS];

        Session(int number, State base) {
            this.number = number;
            this.base = base;
            this.now = base.copy();
        }

        void change(int object, Row row) {
            changes.keep(object, now.row(object));
            now.put(object, row);
        }

        boolean takeBack() {
            if (!changes.stepBack()) {
                return false;
            }
            now.put(changes.changedObject(), changes.rowBefore());
            return true;
        }

        int sideOf(int object, int matter) {
            int place = object * MATTERS + matter;
            return place < 0 || place >= sides.length ? NONE : sides[place] - 1;
        }

        void choose(int object, int matter, int side) {
            int place = object * MATTERS + matter;
            if (place >= 0 && place < sides.length) {
                sides[place] = (byte) (side + 1);
            }
        }

        boolean changed(int object) {
            return !Row.alike(base.row(object), now.row(object));
        }

        /** Of an object that is changed. One that was made is in no other state: it never clashes. */
        boolean clashes(int object, int matter, State head) {
            Row was = base.row(object);
            Row mine = now.row(object);
            Row theirs = head.row(object);
            if (was == null) {
                return false;
            }
            if (matter == WHOLE) {
                return mine == null ? theirs != null && !Row.alike(theirs, was) : theirs == null;
            }
            return Row.differ(mine, was, matter) && Row.differ(theirs, was, matter)
                    && Row.differ(theirs, mine, matter);
        }

        /** What the next version has of an object, when every conflict is settled. */
        Row merged(int object, State head) {
            Row was = base.row(object);
            Row mine = now.row(object);
            Row theirs = head.row(object);
            if (!changed(object)) {
                return theirs;
            }
            if (clashes(object, WHOLE, head)) {
                return sideOf(object, WHOLE) == 1 ? mine : theirs;
            }
            if (mine == null || theirs == null || Row.alike(theirs, was)) {
                return mine;
            }
            Row row = theirs;
            for (int field = 0; field < FIELDS; field++) {
                if (takes(object, field, head)) {
                    row = row.with(field, mine.value(field));
                }
            }
            return row;
        }

        private boolean takes(int object, int field, State head) {
            Row mine = now.row(object);
            return Row.differ(mine, base.row(object), field)
                    && Row.differ(mine, head.row(object), field)
                    && (!clashes(object, field, head) || sideOf(object, field) == 1);
        }
    }

    /** The latest changes of a session; a further one takes the place of the oldest. */
    private static final class Changes {
        private final int[] objects = new int[MOST_CHANGES];
        private final Row[] rows = new Row[MOST_CHANGES];
        /** Those that are not undone, also the ones that can't be any more. */
        private int made;
        private int count;

        void keep(int object, Row before) {
            int place = place();
            objects[place] = object;
            rows[place] = before;
            made++;
            count = Math.min(count + 1, MOST_CHANGES);
        }

        /** Whether there was a change to go back over; the next two tell it then. */
        boolean stepBack() {
            if (count == 0) {
                return false;
            }
            count--;
            made--;
            return true;
        }

        int changedObject() {
            return objects[place()];
        }

        Row rowBefore() {
            return rows[place()];
        }

        /** Where the next change goes; floorMod keeps it in the rows, however many were made. */
        private int place() {
            return Math.floorMod(made, MOST_CHANGES);
        }
    }

    /** The conflicts of the latest join, in the order in which they are told. */
    private static final class Conflicts {
        Session owner;
        private final int[] codes = new int[MOST_OBJECTS * FIELDS];
        private int count;

        void gather(Session s, State head) {
            owner = s;
            count = 0;
            for (int object = 0; object < MOST_OBJECTS; object++) {
                if (s.changed(object)) {
                    gatherOf(object, head);
                }
            }
        }

        private void gatherOf(int object, State head) {
            for (int matter = 0; matter < MATTERS; matter++) {
                if (owner != null && owner.clashes(object, matter, head) && count < codes.length) {
                    codes[count] = OBJECT_STEP * object + matter;
                    count++;
                }
            }
        }

        int unsettled() {
            int found = 0;
            for (int k = 0; k < count; k++) {
                if (owner != null && owner.sideOf(objectOf(k), fieldOf(k)) == NONE) {
                    found++;
                }
            }
            return found;
        }

        boolean has(int k) {
            return k >= 0 && k < count;
        }

        int objectOf(int k) {
            return has(k) ? codes[k] / OBJECT_STEP : NONE;
        }

        int fieldOf(int k) {
            return has(k) ? codes[k] % OBJECT_STEP : NONE;
        }
    }

    private static final class Area {
        final int owner;
        private final long x0;
        private final long y0;
        private final long x1;
        private final long y1;

        Area(int owner, long x0, long y0, long x1, long y1) {
            this.owner = owner;
            this.x0 = x0;
            this.y0 = y0;
            this.x1 = x1;
            this.y1 = y1;
        }

        boolean holds(long x, long y) {
            return x0 <= x && x <= x1 && y0 <= y && y <= y1;
        }

        boolean meets(Area that) {
            return x0 <= that.x1 && that.x0 <= x1 && y0 <= that.y1 && that.y0 <= y1;
        }
    }

    private static final class Locks {
        /** A place without a lock holds null. */
        private final Area[] areas = new Area[MOST_LOCKS];

        boolean add(Area area) {
            int free = NONE;
            for (int i = 0; i < MOST_LOCKS; i++) {
                Area held = areas[i];
                if (held == null) {
                    free = i;
                } else if (held.owner != area.owner && held.meets(area)) {
                    return false;
                }
            }
            if (free < 0) {
                return false;
            }
            areas[free] = area;
            return true;
        }

        boolean bar(int session, Row row) {
            for (int i = 0; i < MOST_LOCKS; i++) {
                Area held = areas[i];
                if (held != null && held.owner != session
                        && held.holds(row.value(0), row.value(1))) {
                    return true;
                }
            }
            return false;
        }

        void release(int session) {
            for (int i = 0; i < MOST_LOCKS; i++) {
                Area held = areas[i];
                if (held != null && held.owner == session) {
                    areas[i] = null;
                }
            }
        }
    }

    private static final class Rule {
        final int first;
        final int other;
        private final long distance;

        Rule(int first, int other, long distance) {
            this.first = first;
            this.other = other;
            this.distance = distance;
        }

        boolean brokenIn(State state) {
            Row a = state.row(first);
            Row b = state.row(other);
            if (a == null || b == null) {
                return false;
            }
            return gap(a.value(0), b.value(0)) + gap(a.value(1), b.value(1)) < distance;
        }

        /** No rule asks for more than MOST_DISTANCE, so a gap is cut there: the sum can't wrap. */
        private static long gap(long a, long b) {
            long wide = Math.max(a, b) - Math.min(a, b);
            // below 0 the gap itself is too wide for a long
            return wide < 0 ? MOST_DISTANCE : Math.min(wide, MOST_DISTANCE);
        }
    }

    private static final class Draw {
        private long s;

        Draw(long seed) {
            s = seed;
        }

        int below(int bound) {
            s = s * 6364136223846793005L + 1442695040888963407L;
            return bound <= 0 ? 0 : (int) ((s >>> 33) % bound);
        }
    }
}
