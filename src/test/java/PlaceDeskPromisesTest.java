/** For each promise of the document: ordinary inputs, the edges that it names, and wrong inputs. */
public final class PlaceDeskPromisesTest {
    private static final int Z = 1, B = 2, S = 3, C = 4, I = 5, J = 6, O = 7;
    private static final int GET = 0, SET = 1, SWAP = 2, TRY = 3, ADD = 4, AND = 5, OR = 6, MOST = 7;
    private static final int NONE = PlaceDesk.NONE;
    private static final int[] FAR = {Integer.MIN_VALUE, -2, -1, Integer.MAX_VALUE};

    public static void main(String[] args) {
        aNewObject();
        row();
        rowsUpToTheirBounds();
        put();
        instance();
        instancesUpToTheirBounds();
        object();
        place();
        view();
        kindOf();
        actsOnPlainKinds();
        actsOnObjects();
        actsThroughViews();
        actsThatAreRefused();
        copy();
        copyRefused();
        meet();
        mark();
        back();
        backLeavesLaterObjects();
        changed();
        Check.end();
    }

    private static void aNewObject() {
        PlaceDesk desk = new PlaceDesk();
        Check.due("new: object(0, -1)", desk.object(0, -1), NONE);
        Check.due("new: object(0, -2)", desk.object(0, -2), NONE);
        Check.due("new: place(0, 0)", desk.place(0, 0), NONE);
        Check.due("new: kindOf(0)", desk.kindOf(0), NONE);
        Check.no("new: meet(0, 0)", desk.meet(0, 0));
        Check.due("new: changed(0)", desk.changed(0), NONE);
        Check.due("new: back(0)", desk.back(0), NONE);
        Check.no("new: copy(0, 0, 0, 0, 0)", desk.copy(0, 0, 0, 0, 0));
        Check.due("new: instance()", desk.instance(), NONE);
        Check.refused(desk, 0, GET, 0, 0);
        Check.due("new: mark()", desk.mark(), 0);
        Check.due("new: changed(0) with nothing there", desk.changed(0), 0);
        Check.due("new: back(0) with nothing there", desk.back(0), 0);
        Check.due("new: row", desk.row(I, 1), 0);
        PlaceDesk other = new PlaceDesk();
        Check.due("another new one has nothing of the first", other.object(0, -1), NONE);
    }

    private static void row() {
        PlaceDesk desk = new PlaceDesk();
        for (int kind = Z; kind <= O; kind++) {
            Check.due("row of kind " + kind, desk.row(kind, 2), kind - 1);
            Check.due("place in it", desk.place(kind - 1, 1), kind - 1);
            Check.act(desk, kind - 1, GET, 0, 0, kind == O ? -1 : 0);
        }
        Check.due("row(0, 1)", desk.row(0, 1), NONE);
        Check.due("row(8, 1)", desk.row(8, 1), NONE);
        Check.due("row(I, -1)", desk.row(I, -1), NONE);
        Check.due("row(I, 201)", desk.row(I, 201), NONE);
        for (int far : FAR) {
            Check.due("row(far, 1)", desk.row(far, 1), NONE);
            Check.due("row(I, far)", desk.row(I, far), NONE);
        }
        Check.due("row(I, 0)", desk.row(I, 0), 7);
        Check.due("row(I, 200)", desk.row(I, 200), 8);
        Check.due("it has 200", desk.object(8, -2), 200);
    }

    private static void rowsUpToTheirBounds() {
        PlaceDesk full = new PlaceDesk();
        for (int i = 0; i < 19; i++) {
            Check.due("row(B, 200)", full.row(B, 200), i);
        }
        Check.due("3,800 and 199", full.row(B, 199), 19);
        Check.due("3,999 and 2", full.row(B, 2), NONE);
        Check.due("3,999 and 1", full.row(O, 1), 20);
        Check.due("4,000 and 1", full.row(B, 1), NONE);
        Check.due("4,000 and 0", full.row(B, 0), 21);
        Check.due("the last element's place", full.place(20, 0), 0);
        Check.act(full, 0, SWAP, 21, 0, -1);
        Check.due("mark of 4,000", full.mark(), 0);
        Check.act(full, 0, SWAP, -1, 0, 21);
        Check.due("back of 4,000", full.back(0), 1);
        Check.act(full, 0, GET, 0, 0, 21);

        PlaceDesk many = new PlaceDesk();
        for (int i = 0; i < 300; i++) {
            Check.due("row(J, 0)", many.row(J, 0), i);
        }
        Check.due("the 301st", many.row(J, 0), NONE);
        Check.yes("put beside 300", many.put(J));
        Check.due("the 301st as instance", many.instance(), NONE);
        Check.due("the 300th is there", many.object(299, -1), J);
        Check.due("the 301st is not", many.object(300, -1), NONE);
    }

    private static void put() {
        PlaceDesk desk = new PlaceDesk();
        Check.no("put(0)", desk.put(0));
        Check.no("put(8)", desk.put(8));
        for (int far : FAR) {
            Check.no("put(far)", desk.put(far));
        }
        int[] kinds = {O, J, I, C, S, B, Z, Z, B, S, C, I};
        for (int kind : kinds) {
            Check.yes("put(" + kind + ")", desk.put(kind));
        }
        Check.no("the 13th", desk.put(Z));
        Check.due("instance of 12", desk.instance(), 0);
        Check.due("12 in it", desk.object(0, -2), 12);
        for (int k = 0; k < kinds.length; k++) {
            Check.due("kind of element " + k, desk.object(0, k), kinds[k]);
        }
    }

    private static void instance() {
        PlaceDesk desk = new PlaceDesk();
        Check.due("empty row", desk.instance(), NONE);
        Check.yes("put(O)", desk.put(O));
        Check.yes("put(J)", desk.put(J));
        Check.due("row between", desk.row(B, 1), 0);
        Check.due("instance", desk.instance(), 1);
        Check.due("the row is empty then", desk.instance(), NONE);
        Check.due("place(1, 0)", desk.place(1, 0), 0);
        Check.due("place(1, 1)", desk.place(1, 1), 1);
        Check.act(desk, 0, GET, 0, 0, -1);
        Check.act(desk, 1, GET, 0, 0, 0);
        Check.yes("put(Z)", desk.put(Z));
        Check.due("a second one", desk.instance(), 2);
        Check.due("it has one element", desk.object(2, -2), 1);
        Check.due("of kind Z", desk.object(2, 0), Z);
    }

    private static void instancesUpToTheirBounds() {
        PlaceDesk desk = new PlaceDesk();
        for (int i = 0; i < 19; i++) {
            desk.row(S, 200);
        }
        desk.row(S, 198);
        for (int i = 0; i < 3; i++) {
            Check.yes("put(I)", desk.put(I));
        }
        Check.due("3,998 and 3", desk.instance(), NONE);
        Check.due("empty also when refused", desk.instance(), NONE);
        for (int i = 0; i < 12; i++) {
            Check.yes("put(I) again, from an empty row on", desk.put(I));
        }
        Check.no("put the 13th", desk.put(I));
        Check.due("3,998 and 12", desk.instance(), NONE);
        Check.yes("put(I)", desk.put(I));
        Check.yes("put(O)", desk.put(O));
        Check.due("3,998 and 2", desk.instance(), 20);
        Check.yes("put(I)", desk.put(I));
        Check.due("4,000 and 1", desk.instance(), NONE);
        Check.due("place of the last element", desk.place(20, 1), 0);
        Check.act(desk, 0, GET, 0, 0, -1);
    }

    private static void object() {
        PlaceDesk desk = new PlaceDesk();
        desk.row(C, 3);
        desk.put(I);
        desk.put(O);
        desk.instance();
        desk.row(O, 0);
        Check.due("kind of a row", desk.object(0, -1), C);
        Check.due("size of a row", desk.object(0, -2), 3);
        Check.due("kind of a row's first", desk.object(0, 0), C);
        Check.due("kind of a row's last", desk.object(0, 2), C);
        Check.due("behind a row's last", desk.object(0, 3), NONE);
        Check.due("kind of an instance", desk.object(1, -1), 0);
        Check.due("size of an instance", desk.object(1, -2), 2);
        Check.due("kind of an instance's first", desk.object(1, 0), I);
        Check.due("kind of an instance's last", desk.object(1, 1), O);
        Check.due("behind an instance's last", desk.object(1, 2), NONE);
        Check.due("kind of an empty row", desk.object(2, -1), O);
        Check.due("size of an empty row", desk.object(2, -2), 0);
        Check.due("first of an empty row", desk.object(2, 0), NONE);
        Check.due("what -3", desk.object(0, -3), NONE);
        Check.due("what least", desk.object(0, Integer.MIN_VALUE), NONE);
        Check.due("what greatest", desk.object(1, Integer.MAX_VALUE), NONE);
        Check.due("object 3", desk.object(3, -2), NONE);
        for (int far : FAR) {
            Check.due("object far", desk.object(far, -1), NONE);
        }
    }

    private static void place() {
        PlaceDesk desk = new PlaceDesk();
        desk.row(I, 2);
        desk.put(B);
        desk.instance();
        desk.row(J, 0);
        Check.due("behind the last", desk.place(0, 2), NONE);
        Check.due("behind the only one", desk.place(1, 1), NONE);
        Check.due("in an empty row", desk.place(2, 0), NONE);
        Check.due("object 3", desk.place(3, 0), NONE);
        for (int far : FAR) {
            Check.due("place(far, 0)", desk.place(far, 0), NONE);
            Check.due("place(0, far)", desk.place(0, far), NONE);
        }
        Check.due("place(0, 1)", desk.place(0, 1), 0);
        Check.due("the same again is a new one", desk.place(0, 1), 1);
        Check.due("place(1, 0)", desk.place(1, 0), 2);
        Check.act(desk, 0, SET, 77, 0, 0);
        Check.act(desk, 1, GET, 0, 0, 77);
        Check.act(desk, 2, GET, 0, 0, 0);
        for (int i = 3; i < 100; i++) {
            Check.due("place(0, 0)", desk.place(0, 0), i);
        }
        Check.due("the 101st", desk.place(0, 0), NONE);
        Check.due("the 100th is there", desk.kindOf(99), I);
        Check.due("the 101st is not", desk.kindOf(100), NONE);
    }

    private static void view() {
        PlaceDesk desk = new PlaceDesk();
        desk.row(B, 9);
        desk.row(S, 9);
        desk.put(B);
        desk.put(B);
        desk.instance();
        desk.row(B, 1);
        desk.row(B, 200);
        int[] kinds = {S, C, I, J};
        int[] widths = {2, 2, 4, 8};
        int next = 0;
        for (int i = 0; i < kinds.length; i++) {
            Check.due("view from the first on", desk.view(0, 0, kinds[i], true), next++);
            Check.due("view up to the last", desk.view(0, 9 - widths[i], kinds[i], false), next++);
            Check.due("view beyond the last", desk.view(0, 10 - widths[i], kinds[i], false), NONE);
            Check.due("view from -1", desk.view(0, -1, kinds[i], true), NONE);
            Check.due("view from far on", desk.view(0, Integer.MAX_VALUE, kinds[i], true), NONE);
            Check.due("view from far ahead", desk.view(0, Integer.MIN_VALUE, kinds[i], true), NONE);
            Check.due("view of a row of S", desk.view(1, 0, kinds[i], true), NONE);
            Check.due("view of an instance", desk.view(2, 0, kinds[i], true), NONE);
            Check.due("view of too short a row", desk.view(3, 0, kinds[i], true), NONE);
        }
        for (int kind : new int[] {Integer.MIN_VALUE, -1, 0, Z, B, O, 8, Integer.MAX_VALUE}) {
            Check.due("view as kind " + kind, desk.view(0, 0, kind, true), NONE);
        }
        for (int far : FAR) {
            Check.due("view of far", desk.view(far, 0, S, true), NONE);
        }
        while (next < 100) {
            Check.due("view", desk.view(4, next, C, true), next++);
        }
        Check.due("the 101st", desk.view(4, 0, C, true), NONE);
        Check.due("the 101st as place", desk.place(4, 0), NONE);
    }

    private static void kindOf() {
        PlaceDesk desk = new PlaceDesk();
        for (int kind = Z; kind <= O; kind++) {
            desk.row(kind, 1);
            desk.place(kind - 1, 0);
            Check.due("kindOf a place of kind " + kind, desk.kindOf(kind - 1), kind);
        }
        desk.put(O);
        desk.put(C);
        desk.instance();
        desk.place(7, 1);
        Check.due("kindOf an instance's element", desk.kindOf(7), C);
        desk.row(B, 8);
        for (int kind = S; kind <= J; kind++) {
            int number = desk.view(8, 0, kind, true);
            Check.due("kindOf a view of kind " + kind, desk.kindOf(number), kind);
        }
        Check.due("kindOf(12)", desk.kindOf(12), NONE);
        for (int far : FAR) {
            Check.due("kindOf(far)", desk.kindOf(far), NONE);
        }
    }

    private static PlaceDesk withOnePlaceOfEachKind() {
        PlaceDesk desk = new PlaceDesk();
        for (int kind = Z; kind <= O; kind++) {
            desk.put(kind);
        }
        desk.instance();
        for (int k = 0; k < O; k++) {
            desk.place(0, k);
        }
        return desk;
    }

    private static void actsOnPlainKinds() {
        PlaceDesk desk = withOnePlaceOfEachKind();
        long[] least = {0, -128, -32768, 0, Integer.MIN_VALUE, Long.MIN_VALUE};
        long[] most = {1, 127, 32767, 65535, Integer.MAX_VALUE, Long.MAX_VALUE};
        for (int p = 0; p < 6; p++) {
            Check.act(desk, p, SET, most[p], Long.MIN_VALUE, 0);
            Check.act(desk, p, GET, Long.MAX_VALUE, Long.MIN_VALUE, most[p]);
            Check.act(desk, p, SWAP, least[p], Long.MAX_VALUE, most[p]);
            Check.act(desk, p, MOST, most[p], 0, least[p]);
            Check.act(desk, p, MOST, least[p], 0, most[p]);
            Check.act(desk, p, TRY, least[p], 0, 0);
            Check.act(desk, p, GET, 0, 0, most[p]);
            Check.act(desk, p, TRY, most[p], least[p], 1);
            Check.act(desk, p, GET, 0, 0, least[p]);
            Check.act(desk, p, SET, 0, 0, 0);
            Check.act(desk, p, OR, 1, 0, 0);
            Check.act(desk, p, OR, 0, 0, 1);
            Check.act(desk, p, AND, 1, 0, 1);
            Check.act(desk, p, AND, 0, 0, 1);
            Check.act(desk, p, GET, 0, 0, 0);
        }
        for (int p = 1; p < 6; p++) {
            Check.act(desk, p, SET, most[p], 0, 0);
            Check.act(desk, p, ADD, 1, Long.MAX_VALUE, most[p]);
            Check.act(desk, p, ADD, most[p], 0, least[p]);
            Check.act(desk, p, GET, 0, 0, least[p] + most[p]);
        }
        Check.act(desk, 1, SET, -128, 0, 0);
        Check.act(desk, 1, ADD, -1, 0, -128);
        Check.act(desk, 1, AND, -2, 0, 127);
        Check.act(desk, 1, OR, -128, 0, 126);
        Check.act(desk, 1, GET, 0, 0, -2);
        Check.act(desk, 5, SET, -6, 0, 0);
        Check.act(desk, 5, MOST, -5, 0, -6);
        Check.act(desk, 5, MOST, -7, 0, -5);
        Check.act(desk, 5, GET, 0, 0, -5);
    }

    private static void actsOnObjects() {
        PlaceDesk desk = withOnePlaceOfEachKind();
        Check.refused(desk, 6, SET, 1, 0);
        Check.due("row", desk.row(Z, 0), 1);
        Check.act(desk, 6, SET, 1, 99, 0);
        Check.act(desk, 6, SWAP, 0, 99, 1);
        Check.act(desk, 6, TRY, -1, 1, 0);
        Check.act(desk, 6, TRY, 0, -1, 1);
        Check.act(desk, 6, GET, -99, 99, -1);
        Check.refused(desk, 6, SET, 2, 0);
        Check.refused(desk, 6, SET, -2, 0);
        Check.refused(desk, 6, SWAP, 2, 0);
        Check.refused(desk, 6, TRY, 2, 0);
        Check.refused(desk, 6, TRY, -1, 2);
        Check.refused(desk, 6, TRY, -1, -2);
        Check.refused(desk, 6, SET, 1L << 32, 0);
        for (int act = ADD; act <= MOST; act++) {
            Check.refused(desk, 6, act, -1, -1);
        }
        Check.act(desk, 6, GET, 0, 0, -1);
    }

    private static void actsThroughViews() {
        PlaceDesk desk = new PlaceDesk();
        desk.row(B, 10);
        for (int k = 0; k < 10; k++) {
            desk.place(0, k);
        }
        int little = desk.view(0, 1, J, true);
        int big = desk.view(0, 1, J, false);
        Check.act(desk, little, SET, 0x0102030405060788L, 0, 0);
        Check.act(desk, big, GET, 0, 0, 0x8807060504030201L);
        Check.act(desk, 0, GET, 0, 0, 0);
        Check.act(desk, 1, GET, 0, 0, -120);
        Check.act(desk, 2, GET, 0, 0, 7);
        Check.act(desk, 8, GET, 0, 0, 1);
        Check.act(desk, 9, GET, 0, 0, 0);
        int shortLittle = desk.view(0, 1, S, true);
        int shortBig = desk.view(0, 1, S, false);
        int charBig = desk.view(0, 1, C, false);
        int intBig = desk.view(0, 1, I, false);
        int intLittle = desk.view(0, 1, I, true);
        Check.act(desk, shortLittle, GET, 0, 0, 0x0788);
        Check.act(desk, shortBig, GET, 0, 0, (short) 0x8807);
        Check.act(desk, charBig, GET, 0, 0, 0x8807);
        Check.act(desk, intBig, GET, 0, 0, 0x88070605);
        Check.act(desk, intLittle, GET, 0, 0, 0x05060788);
        Check.act(desk, charBig, ADD, 0xFFFF, 0, 0x8807);
        Check.act(desk, charBig, ADD, 0x77FA, 0, 0x8806);
        Check.act(desk, 1, GET, 0, 0, 0);
        Check.act(desk, 2, GET, 0, 0, 0);
        Check.act(desk, shortBig, TRY, 0, -2, 1);
        Check.act(desk, charBig, MOST, 0xFFFD, 0, 0xFFFE);
        Check.act(desk, shortBig, MOST, 5, 0, -2);
        Check.act(desk, shortLittle, OR, 1, 0, 0x0500);
        Check.act(desk, shortLittle, AND, 0x0401, 0, 0x0501);
        Check.act(desk, shortLittle, SWAP, -1, 0, 0x0401);
        Check.act(desk, 1, GET, 0, 0, -1);
        Check.act(desk, 2, GET, 0, 0, -1);
        Check.act(desk, 3, GET, 0, 0, 6);
        Check.refused(desk, shortBig, SET, 32768, 0);
        Check.refused(desk, charBig, SET, -1, 0);
        Check.refused(desk, intBig, SET, 1L << 31, 0);
        Check.act(desk, 1, SET, 3, 0, 0);
        Check.act(desk, intBig, GET, 0, 0, 0x03FF0605);
    }

    private static void actsThatAreRefused() {
        PlaceDesk desk = withOnePlaceOfEachKind();
        long[] below = {-1, -129, -32769, -1, Integer.MIN_VALUE - 1L};
        long[] above = {2, 128, 32768, 65536, Integer.MAX_VALUE + 1L};
        for (int p = 0; p < 5; p++) {
            for (int act = SET; act <= MOST; act++) {
                Check.refused(desk, p, act, below[p], 0);
                Check.refused(desk, p, act, above[p], 0);
                Check.refused(desk, p, act, 1L << 40, 0);
            }
            Check.refused(desk, p, TRY, 0, below[p]);
            Check.refused(desk, p, TRY, 0, above[p]);
            Check.refused(desk, p, TRY, 1, above[p]);
            Check.act(desk, p, GET, above[p], below[p], 0);
            Check.act(desk, p, SET, 0, above[p], 0);
        }
        Check.refused(desk, 0, ADD, 1, 0);
        Check.refused(desk, 0, ADD, 0, 0);
        Check.refused(desk, 5, 8, 0, 0);
        Check.refused(desk, 7, GET, 0, 0);
        for (int far : FAR) {
            Check.refused(desk, 5, far, 0, 0);
            Check.refused(desk, far, GET, 0, 0);
        }
        Check.act(desk, 0, GET, 0, 0, 0);
    }

    private static void fill(PlaceDesk desk, int object, int firstPlace, int n) {
        for (int k = 0; k < n; k++) {
            Check.due("place", desk.place(object, k), firstPlace + k);
            Check.act(desk, firstPlace + k, SET, 10 * object + k + 1, 0, 0);
        }
    }

    private static void all(PlaceDesk desk, int firstPlace, long... want) {
        for (int k = 0; k < want.length; k++) {
            Check.act(desk, firstPlace + k, GET, 0, 0, want[k]);
        }
    }

    private static void copy() {
        PlaceDesk desk = new PlaceDesk();
        desk.row(I, 5);
        desk.row(I, 4);
        fill(desk, 0, 0, 5);
        fill(desk, 1, 5, 4);
        Check.yes("to the same, up", desk.copy(0, 0, 0, 1, 4));
        all(desk, 0, 1, 1, 2, 3, 4, 11, 12, 13, 14);
        Check.yes("to the same, down", desk.copy(0, 2, 0, 0, 3));
        all(desk, 0, 2, 3, 4, 3, 4, 11, 12, 13, 14);
        Check.yes("to another", desk.copy(1, 1, 0, 2, 3));
        all(desk, 0, 2, 3, 12, 13, 14, 11, 12, 13, 14);
        Check.yes("a whole row", desk.copy(0, 1, 1, 0, 4));
        all(desk, 0, 2, 3, 12, 13, 14, 3, 12, 13, 14);
        Check.yes("none", desk.copy(0, 0, 1, 0, 0));
        Check.yes("none, behind the last", desk.copy(0, 5, 1, 4, 0));
        all(desk, 0, 2, 3, 12, 13, 14, 3, 12, 13, 14);
        desk.row(O, 2);
        desk.row(O, 1);
        desk.place(2, 1);
        desk.place(3, 0);
        Check.act(desk, 9, SET, 3, 0, 0);
        Check.yes("of objects", desk.copy(2, 1, 3, 0, 1));
        Check.act(desk, 10, GET, 0, 0, 3);
        desk.row(J, 0);
        Check.yes("none of an empty row", desk.copy(4, 0, 4, 0, 0));
        Check.no("one of an empty row", desk.copy(4, 0, 4, 0, 1));
    }

    private static void copyRefused() {
        PlaceDesk desk = new PlaceDesk();
        desk.row(I, 5);
        desk.row(I, 4);
        desk.row(J, 5);
        desk.put(I);
        desk.put(I);
        desk.instance();
        fill(desk, 0, 0, 5);
        fill(desk, 1, 5, 4);
        Check.no("beyond the source", desk.copy(0, 3, 1, 0, 3));
        Check.no("beyond the target", desk.copy(0, 0, 1, 2, 3));
        Check.no("n -1", desk.copy(0, 1, 1, 1, -1));
        Check.no("n least", desk.copy(0, 1, 1, 1, Integer.MIN_VALUE));
        Check.no("n greatest", desk.copy(0, 1, 1, 1, Integer.MAX_VALUE));
        Check.no("other kinds", desk.copy(0, 0, 2, 0, 1));
        Check.no("other kinds, none", desk.copy(0, 0, 2, 0, 0));
        Check.no("from an instance", desk.copy(3, 0, 0, 0, 1));
        Check.no("to an instance", desk.copy(0, 0, 3, 0, 1));
        Check.no("within an instance", desk.copy(3, 0, 3, 1, 1));
        Check.no("from object 4", desk.copy(4, 0, 0, 0, 1));
        Check.no("to object 4", desk.copy(0, 0, 4, 0, 1));
        for (int far : FAR) {
            Check.no("from far", desk.copy(far, 0, 0, 0, 1));
            Check.no("to far", desk.copy(0, 0, far, 0, 1));
            Check.no("a far", desk.copy(0, far, 1, 0, 1));
            Check.no("b far", desk.copy(0, 0, 1, far, 1));
            Check.no("a far, none", desk.copy(0, far, 1, 0, 0));
            Check.no("b far, none", desk.copy(0, 0, 1, far, 0));
        }
        Check.no("a and n far", desk.copy(0, Integer.MAX_VALUE, 1, 0, Integer.MAX_VALUE));
        all(desk, 0, 1, 2, 3, 4, 5, 11, 12, 13, 14);
    }

    private static void meet() {
        PlaceDesk desk = new PlaceDesk();
        desk.row(B, 8);
        desk.row(B, 8);
        int third = desk.place(0, 3);
        int thirdAgain = desk.place(0, 3);
        int fourth = desk.place(0, 4);
        int front = desk.view(0, 0, I, true);
        int middle = desk.view(0, 3, S, false);
        int rear = desk.view(0, 4, I, true);
        int whole = desk.view(0, 0, J, true);
        int otherFront = desk.view(1, 0, I, true);
        int otherFirst = desk.place(1, 0);
        int[][] meeting = {{third, third}, {third, thirdAgain}, {third, front}, {third, middle}, {fourth, middle},
            {fourth, rear}, {front, middle}, {middle, rear}, {whole, third}, {whole, rear}, {otherFront, otherFirst}};
        int[][] apart = {{third, fourth}, {third, rear}, {fourth, front}, {front, rear}, {rear, otherFront},
            {whole, otherFirst}, {whole, otherFront}, {front, otherFront}};
        for (int[] pair : meeting) {
            Check.yes("meet(" + pair[0] + ", " + pair[1] + ")", desk.meet(pair[0], pair[1]));
            Check.yes("meet(" + pair[1] + ", " + pair[0] + ")", desk.meet(pair[1], pair[0]));
        }
        for (int[] pair : apart) {
            Check.no("meet(" + pair[0] + ", " + pair[1] + ")", desk.meet(pair[0], pair[1]));
            Check.no("meet(" + pair[1] + ", " + pair[0] + ")", desk.meet(pair[1], pair[0]));
        }
        Check.no("meet(0, 9)", desk.meet(0, 9));
        Check.no("meet(9, 9)", desk.meet(9, 9));
        for (int far : FAR) {
            Check.no("meet(0, far)", desk.meet(0, far));
            Check.no("meet(far, 0)", desk.meet(far, 0));
            Check.no("meet(far, far)", desk.meet(far, far));
        }
    }

    private static void mark() {
        PlaceDesk desk = new PlaceDesk();
        desk.row(I, 1);
        desk.place(0, 0);
        for (int i = 0; i < 20; i++) {
            Check.act(desk, 0, SET, i, 0, 0);
            Check.due("mark()", desk.mark(), i);
        }
        Check.act(desk, 0, SET, 99, 0, 0);
        Check.due("the 21st", desk.mark(), NONE);
        Check.due("changed(20)", desk.changed(20), NONE);
        Check.due("back(20)", desk.back(20), NONE);
        for (int i = 19; i >= 0; i--) {
            Check.due("back(" + i + ")", desk.back(i), 1);
            Check.act(desk, 0, GET, 0, 0, i);
        }
        Check.act(desk, 0, SET, 50, 0, 0);
        Check.due("the number behind mark 0 is free again", desk.mark(), 1);
        Check.act(desk, 0, SET, 51, 0, 0);
        Check.due("back(1)", desk.back(1), 1);
        Check.act(desk, 0, GET, 0, 0, 50);
    }

    private static void back() {
        PlaceDesk desk = new PlaceDesk();
        desk.row(I, 3);
        fill(desk, 0, 0, 3);
        Check.due("mark()", desk.mark(), 0);
        Check.act(desk, 0, SET, 100, 0, 0);
        Check.due("mark()", desk.mark(), 1);
        Check.act(desk, 1, SET, 200, 0, 0);
        Check.due("mark()", desk.mark(), 2);
        Check.act(desk, 2, SET, 300, 0, 0);
        Check.due("back(3)", desk.back(3), NONE);
        for (int far : FAR) {
            Check.due("back(far)", desk.back(far), NONE);
        }
        all(desk, 0, 100, 200, 300);
        Check.due("back(1)", desk.back(1), 2);
        all(desk, 0, 100, 2, 3);
        Check.due("mark 2 is gone", desk.back(2), NONE);
        Check.due("mark 2 is gone for changed", desk.changed(2), NONE);
        Check.due("mark 1 stays", desk.back(1), 0);
        Check.act(desk, 2, SET, 400, 0, 0);
        Check.act(desk, 2, SET, 3, 0, 0);
        Check.due("set there and back", desk.back(1), 0);
        Check.due("back(0)", desk.back(0), 1);
        all(desk, 0, 1, 2, 3);
        Check.due("places stay", desk.kindOf(2), I);
    }

    private static void backLeavesLaterObjects() {
        PlaceDesk desk = new PlaceDesk();
        desk.row(O, 1);
        desk.place(0, 0);
        Check.yes("put", desk.put(J));
        Check.due("mark()", desk.mark(), 0);
        Check.due("row behind it", desk.row(I, 1), 1);
        Check.due("its place", desk.place(1, 0), 1);
        Check.act(desk, 0, SET, 1, 0, 0);
        Check.act(desk, 1, SET, 5, 0, 0);
        Check.due("mark()", desk.mark(), 1);
        Check.act(desk, 1, SET, 6, 0, 0);
        Check.due("back(0)", desk.back(0), 1);
        all(desk, 0, -1, 6);
        Check.due("the later object stays", desk.object(1, -2), 1);
        Check.act(desk, 0, SET, 1, 0, 0);
        Check.due("the kinds in the row stay", desk.instance(), 2);
        Check.due("mark()", desk.mark(), 1);
        Check.act(desk, 1, SET, 7, 0, 0);
        Check.due("back(1)", desk.back(1), 1);
        all(desk, 0, 1, 6);
    }

    private static void changed() {
        PlaceDesk desk = new PlaceDesk();
        desk.row(B, 8);
        int view = desk.view(0, 0, J, true);
        Check.due("mark()", desk.mark(), 0);
        Check.due("nothing yet", desk.changed(0), 0);
        Check.act(desk, view, SET, 0x0101000000000001L, 0, 0);
        Check.due("three", desk.changed(0), 3);
        Check.due("mark()", desk.mark(), 1);
        Check.due("none since", desk.changed(1), 0);
        Check.act(desk, view, SET, 0x0100000000000100L, 0, 0);
        Check.due("two by mark 0", desk.changed(0), 2);
        Check.due("three by mark 1", desk.changed(1), 3);
        desk.row(I, 1);
        int later = desk.place(1, 0);
        Check.act(desk, later, SET, 5, 0, 0);
        Check.due("later objects do not count", desk.changed(1), 3);
        Check.due("asking changes nothing", desk.changed(0), 2);
        Check.due("changed(2)", desk.changed(2), NONE);
        for (int far : FAR) {
            Check.due("changed(far)", desk.changed(far), NONE);
        }
        Check.due("back(0)", desk.back(0), 2);
        Check.due("none then", desk.changed(0), 0);
        Check.due("mark 1 is gone", desk.changed(1), NONE);
    }
}
