/** Rows and instances whose elements are reached through places and views, with marks to go back to. */
public final class PlaceDesk {
    public static final int NONE = -1;

    private static final int KIND_Z = 1;
    private static final int KIND_B = 2;
    private static final int KIND_S = 3;
    private static final int KIND_C = 4;
    private static final int KIND_I = 5;
    private static final int KIND_J = 6;
    private static final int KIND_O = 7;

    /** What an instance has where a row has the kind of its elements. */
    private static final int KIND_EACH = 0;

    private static final int ACT_GET = 0;
    private static final int ACT_SET = 1;
    private static final int ACT_SWAP = 2;
    private static final int ACT_TRY = 3;
    private static final int ACT_ADD = 4;
    private static final int ACT_AND = 5;
    private static final int ACT_OR = 6;
    private static final int ACT_MOST = 7;

    private static final int ASK_KIND = -1;
    private static final int ASK_SIZE = -2;

    private static final long NULL = -1;

    private static final int MOST_OBJECTS = 300;
    private static final int MOST_ELEMENTS = 4000;
    private static final int MOST_IN_ROW = 200;
    private static final int MOST_IN_INSTANCE = 12;
    private static final int MOST_PLACES = 100;
    private static final int MOST_MARKS = 20;

    // The elements of all objects stand in one array, one object behind the other: objects never go,
    // so what a mark remembers is always the front part of it.
    private final long[] values = new long[MOST_ELEMENTS];
    private final int[] kinds = new int[MOST_ELEMENTS];
    private int elementCount = 0;

    private final Thing[] things = new Thing[MOST_OBJECTS];
    private int thingCount = 0;

    private final int[] waiting = new int[MOST_IN_INSTANCE];
    private int waitingCount = 0;

    private final Spot[] spots = new Spot[MOST_PLACES];
    private int spotCount = 0;

    private final Snapshot[] snapshots = new Snapshot[MOST_MARKS];
    private int snapshotCount = 0;

    /** An object: a row or an instance. */
    private static final class Thing {
        final int kind;
        final int first;
        final int size;

        Thing(int kind, int first, int size) {
            this.kind = kind;
            this.first = first;
            this.size = size;
        }

        /** Whether n elements from element k on are there; with n 0, k may stand right behind the last one. */
        boolean holds(int k, int n) {
            return k >= 0 && n >= 0 && k <= size && n <= size - k;
        }
    }

    /** A place: one element, or a view of several elements of kind B. */
    private static final class Spot {
        final int kind;
        final int first;
        final int width;
        final boolean little;

        Spot(int kind, int first, int width, boolean little) {
            this.kind = kind;
            this.first = first;
            this.width = width;
            this.little = little;
        }

        /** Where the view's byte stands that has rank others above it. */
        int indexOfByte(int rank) {
            return little ? first + width - 1 - rank : first + rank;
        }

        boolean overlaps(Spot other) {
            return first < other.first + other.width && other.first < first + width;
        }
    }

    /** What a mark remembers; used again when a later mark gets the same number. */
    private static final class Snapshot {
        final long[] remembered = new long[MOST_ELEMENTS];
        int count = 0;

        void remember(long[] values, int elementCount) {
            count = elementCount;
            System.arraycopy(values, 0, remembered, 0, count);
        }

        int differences(long[] values) {
            int differing = 0;
            for (int i = 0; i < count; i++) {
                if (values[i] != remembered[i]) {
                    differing++;
                }
            }
            return differing;
        }

        void restore(long[] values) {
            System.arraycopy(remembered, 0, values, 0, count);
        }
    }

    public PlaceDesk() {
    }

    public int row(int kind, int n) {
        if (!isKind(kind) || n < 0 || n > MOST_IN_ROW || !hasRoomFor(n)) {
            return NONE;
        }
        for (int i = 0; i < n; i++) {
            kinds[elementCount + i] = kind;
        }
        return addThing(kind, n);
    }

    public boolean put(int kind) {
        if (waitingCount >= MOST_IN_INSTANCE || !isKind(kind)) {
            return false;
        }
        waiting[waitingCount] = kind;
        waitingCount++;
        return true;
    }

    public int instance() {
        int n = waitingCount;
        waitingCount = 0;
        if (n == 0 || !hasRoomFor(n)) {
            return NONE;
        }
        System.arraycopy(waiting, 0, kinds, elementCount, n);
        return addThing(KIND_EACH, n);
    }

    public int object(int object, int what) {
        Thing thing = findThing(object);
        if (thing == null) {
            return NONE;
        }
        if (what == ASK_KIND) {
            return thing.kind;
        }
        if (what == ASK_SIZE) {
            return thing.size;
        }
        return thing.holds(what, 1) ? kinds[thing.first + what] : NONE;
    }

    public int place(int object, int k) {
        Thing thing = findThing(object);
        if (thing == null || !thing.holds(k, 1)) {
            return NONE;
        }
        int index = thing.first + k;
        return addSpot(kinds[index], index, 1, false);
    }

    public int view(int object, int k, int kind, boolean little) {
        Thing thing = findThing(object);
        int width = widthOfView(kind);
        if (thing == null || thing.kind != KIND_B || width == 0 || !thing.holds(k, width)) {
            return NONE;
        }
        return addSpot(kind, thing.first + k, width, little);
    }

    public int kindOf(int place) {
        Spot spot = findSpot(place);
        return spot == null ? NONE : spot.kind;
    }

    public long act(int place, int act, long v, long w) throws IllegalArgumentException {
        Spot spot = findSpot(place);
        if (spot == null) {
            throw new IllegalArgumentException("no such place");
        }
        if (!isActOf(act, spot.kind)) {
            throw new IllegalArgumentException("no such act, or not of this kind");
        }
        if (act != ACT_GET && !isValue(spot.kind, v)) {
            throw new IllegalArgumentException("v is no value of this kind");
        }
        if (act == ACT_TRY && !isValue(spot.kind, w)) {
            throw new IllegalArgumentException("w is no value of this kind");
        }
        return perform(spot, act, v, w);
    }

    public boolean copy(int from, int a, int to, int b, int n) {
        Thing source = findThing(from);
        Thing target = findThing(to);
        if (source == null || target == null) {
            return false;
        }
        if (source.kind == KIND_EACH || source.kind != target.kind) {
            return false;
        }
        if (!source.holds(a, n) || !target.holds(b, n)) {
            return false;
        }
        System.arraycopy(values, source.first + a, values, target.first + b, n);
        return true;
    }

    public boolean meet(int place, int other) {
        Spot one = findSpot(place);
        Spot two = findSpot(other);
        return one != null && two != null && one.overlaps(two);
    }

    public int mark() {
        if (snapshotCount >= MOST_MARKS) {
            return NONE;
        }
        Snapshot snapshot = snapshots[snapshotCount];
        if (snapshot == null) {
            snapshot = new Snapshot();
            snapshots[snapshotCount] = snapshot;
        }
        snapshot.remember(values, elementCount);
        snapshotCount++;
        return snapshotCount - 1;
    }

    public int back(int mark) {
        Snapshot snapshot = findSnapshot(mark);
        if (snapshot == null) {
            return NONE;
        }
        int differing = snapshot.differences(values);
        snapshot.restore(values);
        snapshotCount = mark + 1;
        return differing;
    }

    public int changed(int mark) {
        Snapshot snapshot = findSnapshot(mark);
        return snapshot == null ? NONE : snapshot.differences(values);
    }

    private static boolean isKind(int kind) {
        return kind >= KIND_Z && kind <= KIND_O;
    }

    /** How many elements of kind B a view of this kind covers; 0 when there are no such views. */
    private static int widthOfView(int kind) {
        switch (kind) {
            case KIND_S:
            case KIND_C:
                return 2;
            case KIND_I:
                return 4;
            case KIND_J:
                return 8;
            default:
                return 0;
        }
    }

    private static boolean isActOf(int act, int kind) {
        switch (act) {
            case ACT_GET:
            case ACT_SET:
            case ACT_SWAP:
            case ACT_TRY:
                return true;
            case ACT_ADD:
                return kind != KIND_Z && kind != KIND_O;
            case ACT_AND:
            case ACT_OR:
            case ACT_MOST:
                return kind != KIND_O;
            default:
                return false;
        }
    }

    private boolean isValue(int kind, long v) {
        if (kind == KIND_O) {
            return v >= NULL && v < thingCount;
        }
        return lowestBits(kind, v) == v;
    }

    /** The value of a plain kind that has the lowest bits of these. */
    private static long lowestBits(int kind, long bits) {
        switch (kind) {
            case KIND_Z:
                return bits & 1;
            case KIND_B:
                return (byte) bits;
            case KIND_S:
                return (short) bits;
            case KIND_C:
                return bits & 0xFFFF;
            case KIND_I:
                return (int) bits;
            default:
                return bits;
        }
    }

    private boolean hasRoomFor(int n) {
        return thingCount < MOST_OBJECTS && n <= MOST_ELEMENTS - elementCount;
    }

    /** Takes the next n elements, whose kinds are set already, for a new object. */
    private int addThing(int kind, int n) {
        for (int i = elementCount; i < elementCount + n; i++) {
            values[i] = kinds[i] == KIND_O ? NULL : 0;
        }
        things[thingCount] = new Thing(kind, elementCount, n);
        elementCount += n;
        thingCount++;
        return thingCount - 1;
    }

    private int addSpot(int kind, int first, int width, boolean little) {
        if (spotCount >= MOST_PLACES) {
            return NONE;
        }
        spots[spotCount] = new Spot(kind, first, width, little);
        spotCount++;
        return spotCount - 1;
    }

    private Thing findThing(int object) {
        return object >= 0 && object < thingCount ? things[object] : null;
    }

    private Spot findSpot(int place) {
        return place >= 0 && place < spotCount ? spots[place] : null;
    }

    private Snapshot findSnapshot(int mark) {
        return mark >= 0 && mark < snapshotCount ? snapshots[mark] : null;
    }

    private long perform(Spot spot, int act, long v, long w) {
        long had = read(spot);
        switch (act) {
            case ACT_SET:
                write(spot, v);
                return 0;
            case ACT_SWAP:
                write(spot, v);
                return had;
            case ACT_TRY:
                if (had != v) {
                    return 0;
                }
                write(spot, w);
                return 1;
            case ACT_ADD:
                write(spot, lowestBits(spot.kind, had + v));
                return had;
            case ACT_AND:
                write(spot, had & v);
                return had;
            case ACT_OR:
                write(spot, had | v);
                return had;
            case ACT_MOST:
                write(spot, Math.max(had, v));
                return had;
            default:
                return had;
        }
    }

    private long read(Spot spot) {
        if (spot.width == 1) {
            return values[spot.first];
        }
        long bits = 0;
        for (int rank = 0; rank < spot.width; rank++) {
            bits = (bits << 8) | (values[spot.indexOfByte(rank)] & 0xFF);
        }
        return lowestBits(spot.kind, bits);
    }

    private void write(Spot spot, long v) {
        if (spot.width == 1) {
            values[spot.first] = v;
            return;
        }
        long bits = v;
        for (int rank = spot.width - 1; rank >= 0; rank--) {
            values[spot.indexOfByte(rank)] = lowestBits(KIND_B, bits);
            bits >>= 8;
        }
    }
}
