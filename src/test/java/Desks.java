/** Desks that tests begin with, and questions that many tests ask. */
final class Desks implements Words {
    /** Numbers that no object, place, mark, kind or element has. */
    static final int[] FAR = {LOWEST, LOWEST + 1, -2, -1, HIGHEST - 1, HIGHEST};

    private Desks() {
    }

    static long least(int kind) {
        return new long[] {0, 0, -128, -32768, 0, Integer.MIN_VALUE, Long.MIN_VALUE, NULL}[kind];
    }

    static long greatest(int kind) {
        return new long[] {0, 1, 127, 32767, 65535, Integer.MAX_VALUE, Long.MAX_VALUE, NULL}[kind];
    }

    static int width(int kind) {
        return new int[] {0, 1, 1, 2, 2, 4, 8, 1}[kind];
    }

    /** Object 0 is an instance with an element of each kind; place p is the one of kind p + 1. */
    static PlaceDesk withEachKind() {
        PlaceDesk desk = new PlaceDesk();
        putAll(desk, Z, B, S, C, I, J, O);
        Check.due("instance()", desk.instance(), 0);
        for (int k = 0; k < O; k++) {
            Check.due("place(0, " + k + ")", desk.place(0, k), k);
        }
        return desk;
    }

    /** Objects 0 on are rows of S with n elements in all, 200 in each but the last. */
    static PlaceDesk withElements(int n) {
        PlaceDesk desk = new PlaceDesk();
        for (int left = n; left > 0; left -= 200) {
            desk.row(S, Math.min(left, 200));
        }
        return desk;
    }

    /** Objects 0 on are n rows without elements. */
    static PlaceDesk withObjects(int n) {
        PlaceDesk desk = new PlaceDesk();
        for (int i = 0; i < n; i++) {
            desk.row(J, 0);
        }
        return desk;
    }

    /** Object 0 is a row of 200 of B; n places are its elements from 0 on. */
    static PlaceDesk withPlaces(int n) {
        PlaceDesk desk = new PlaceDesk();
        desk.row(B, 200);
        for (int k = 0; k < n; k++) {
            desk.place(0, k);
        }
        return desk;
    }

    /** Object 0 is a row of one I, place 0 its element; mark m was made when it had m, and it has n now. */
    static PlaceDesk withMarks(int n) {
        PlaceDesk desk = withRow(I, 0);
        for (int m = 0; m < n; m++) {
            desk.mark();
            desk.act(0, SET, m + 1, 0);
        }
        return desk;
    }

    /** Object 0 is a row with these values; place k is its element k. */
    static PlaceDesk withRow(int kind, long... values) {
        PlaceDesk desk = new PlaceDesk();
        addRow(desk, kind, values);
        return desk;
    }

    /** A row more with these values, and a place for each of its elements: the number of the first place. */
    static int addRow(PlaceDesk desk, int kind, long... values) {
        int object = desk.row(kind, values.length);
        int first = NONE;
        for (int k = 0; k < values.length; k++) {
            int place = desk.place(object, k);
            first = k == 0 ? place : first;
            desk.act(place, SET, values[k], 0);
        }
        return first;
    }

    static void putAll(PlaceDesk desk, int... kinds) {
        for (int kind : kinds) {
            Check.yes("put(" + kind + ")", desk.put(kind));
        }
    }

    /** The places from this one on have these values. */
    static void have(PlaceDesk desk, int place, long... values) {
        for (int i = 0; i < values.length; i++) {
            Check.act(desk, place + i, GET, 0, 0, values[i]);
        }
    }

    /** The desk has just this many objects. */
    static void hasObjects(PlaceDesk desk, int n) {
        Check.yes("object " + (n - 1) + " is there", n == 0 || desk.object(n - 1, SIZE) != NONE);
        Check.due("object " + n + " is not there", desk.object(n, SIZE), NONE);
    }

    /** The desk has just this many places. */
    static void hasPlaces(PlaceDesk desk, int n) {
        Check.yes("place " + (n - 1) + " is there", n == 0 || desk.kindOf(n - 1) != NONE);
        Check.due("place " + n + " is not there", desk.kindOf(n), NONE);
    }

    /** The desk has just this many marks. */
    static void hasMarks(PlaceDesk desk, int n) {
        Check.yes("mark " + (n - 1) + " is there", n == 0 || desk.changed(n - 1) != NONE);
        Check.due("mark " + n + " is not there", desk.changed(n), NONE);
    }
}
