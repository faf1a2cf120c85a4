/** A test for each sentence of Promises 1 to 14: what is done, up to its edges, and what is refused. */
public final class PlaceDeskPromisesTest implements Words {
    private static final int[] NO_KINDS = {LOWEST, -7, -1, 0, 8, 9, 263, HIGHEST};

    public static void main(String[] args) {
        aNewObject();
        row();
        put();
        instance();
        object();
        place();
        view();
        kindOf();
        act();
        copy();
        meet();
        mark();
        back();
        changed();
        Check.end();
    }

    private static void aNewObject() {
        Check.each(
            PlaceDeskPromisesTest::newHasNoObjects,
            PlaceDeskPromisesTest::newHasNoPlaces,
            PlaceDeskPromisesTest::newHasNoMarks,
            PlaceDeskPromisesTest::newHasAnEmptyRow,
            PlaceDeskPromisesTest::newHasNothingOfAnother);
    }

    private static void newHasNoObjects() {
        Check.sentence("Promise 1: No OBJECTS");
        PlaceDesk desk = new PlaceDesk();
        Desks.hasObjects(desk, 0);
        Check.due("object(0, -1)", desk.object(0, KIND), NONE);
        Check.due("object(0, 0)", desk.object(0, 0), NONE);
        Check.due("place(0, 0)", desk.place(0, 0), NONE);
        Check.due("view(0, 0, S, true)", desk.view(0, 0, S, true), NONE);
        Check.no("copy(0, 0, 0, 0, 0)", desk.copy(0, 0, 0, 0, 0));
        Check.due("the first one's number", desk.row(I, 1), 0);
    }

    private static void newHasNoPlaces() {
        Check.sentence("Promise 1: No .. PLACES");
        PlaceDesk desk = new PlaceDesk();
        Desks.hasPlaces(desk, 0);
        Check.no("meet(0, 0)", desk.meet(0, 0));
        Check.refused(desk, 0, GET, 0, 0);
        desk.row(I, 1);
        Check.due("the first one's number", desk.place(0, 0), 0);
    }

    private static void newHasNoMarks() {
        Check.sentence("Promise 1: No .. MARKS");
        PlaceDesk desk = new PlaceDesk();
        Desks.hasMarks(desk, 0);
        Check.due("back(0)", desk.back(0), NONE);
        Check.due("the first one's number", desk.mark(), 0);
    }

    private static void newHasAnEmptyRow() {
        Check.sentence("Promise 1: the row is empty");
        PlaceDesk desk = new PlaceDesk();
        Check.due("instance()", desk.instance(), NONE);
        Desks.putAll(new PlaceDesk(), Z, Z, Z, Z, Z, Z, Z, Z, Z, Z, Z, Z);
    }

    private static void newHasNothingOfAnother() {
        Check.sentence("Promise 1: A new object has nothing of another one");
        PlaceDesk used = Desks.withMarks(2);
        Desks.putAll(used, J);
        PlaceDesk desk = new PlaceDesk();
        Desks.hasObjects(desk, 0);
        Desks.hasPlaces(desk, 0);
        Desks.hasMarks(desk, 0);
        Check.due("instance()", desk.instance(), NONE);
        Desks.hasObjects(used, 1);
        Check.act(used, 0, GET, 0, 0, 2);
    }

    private static void row() {
        Check.each(
            PlaceDeskPromisesTest::rowIsMade,
            PlaceDeskPromisesTest::rowRefusedByObjects,
            PlaceDeskPromisesTest::rowRefusedByKind,
            PlaceDeskPromisesTest::rowRefusedByItsLength,
            PlaceDeskPromisesTest::rowRefusedByAllElements);
    }

    private static void rowIsMade() {
        Check.sentence("Promise 2: A new ROW of n ELEMENTS of a kind: its number");
        PlaceDesk desk = new PlaceDesk();
        for (int kind = Z; kind <= O; kind++) {
            Check.due("row(" + kind + ", " + 2 * kind + ")", desk.row(kind, 2 * kind), kind - 1);
            Check.due("its kind", desk.object(kind - 1, KIND), kind);
            Check.due("its size", desk.object(kind - 1, SIZE), 2 * kind);
            Check.due("its last element's place", desk.place(kind - 1, 2 * kind - 1), kind - 1);
            Check.act(desk, kind - 1, GET, 0, 0, kind == O ? NULL : 0);
        }
    }

    private static void rowRefusedByObjects() {
        Check.sentence("Promise 2: NONE, refused, when there are 300 OBJECTS");
        PlaceDesk desk = Desks.withObjects(299);
        Check.due("the 300th", desk.row(J, 200), 299);
        Check.due("the 301st", desk.row(J, 1), NONE);
        Check.due("the 301st, of none", desk.row(J, 0), NONE);
        Desks.hasObjects(desk, 300);
        Check.due("the 300th has its elements", desk.object(299, SIZE), 200);
    }

    private static void rowRefusedByKind() {
        Check.sentence("Promise 2: NONE, refused, when .. there is no such kind");
        PlaceDesk desk = new PlaceDesk();
        for (int kind : NO_KINDS) {
            Check.due("row(" + kind + ", 1)", desk.row(kind, 1), NONE);
            Check.due("row(" + kind + ", 0)", desk.row(kind, 0), NONE);
        }
        Desks.hasObjects(desk, 0);
        Check.due("the next number", desk.row(O, 1), 0);
    }

    private static void rowRefusedByItsLength() {
        Check.sentence("Promise 2: NONE, refused, when .. n is not 0 .. 200");
        PlaceDesk desk = new PlaceDesk();
        for (int n : new int[] {LOWEST, LOWEST + 1, -200, -1, 201, 4000, 4001, HIGHEST - 1, HIGHEST}) {
            Check.due("row(B, " + n + ")", desk.row(B, n), NONE);
        }
        Desks.hasObjects(desk, 0);
        Check.due("row(B, 0)", desk.row(B, 0), 0);
        Check.due("row(B, 200)", desk.row(B, 200), 1);
        Check.due("all 200 of them", desk.object(1, 199), B);
    }

    private static void rowRefusedByAllElements() {
        Check.sentence("Promise 2: NONE, refused, when .. all would have more than 4,000 ELEMENTS");
        PlaceDesk desk = Desks.withElements(3901);
        Check.due("4,001 in all", desk.row(C, 100), NONE);
        Check.due("4,101 in all", desk.row(C, 200), NONE);
        Desks.hasObjects(desk, 20);
        Check.due("what was refused took none: 4,000 in all", desk.row(C, 99), 20);
        Check.due("4,001 in all", desk.row(C, 1), NONE);
        Check.due("still 4,000", desk.row(C, 0), 21);
        Desks.hasObjects(desk, 22);
    }

    private static void put() {
        Check.each(
            PlaceDeskPromisesTest::putOneMore,
            PlaceDeskPromisesTest::putRefusedByTwelve,
            PlaceDeskPromisesTest::putRefusedByKind);
    }

    private static void putOneMore() {
        Check.sentence("Promise 3: One more kind comes to the row, 12 at most");
        int[] kinds = {O, J, I, C, S, B, Z, Z, B, S, C, I};
        for (int n = 1; n <= 12; n++) {
            PlaceDesk desk = new PlaceDesk();
            for (int k = 0; k < n; k++) {
                Check.yes("put(" + kinds[k] + ")", desk.put(kinds[k]));
            }
            Check.due("instance()", desk.instance(), 0);
            Check.due("its size", desk.object(0, SIZE), n);
            for (int k = 0; k < n; k++) {
                Check.due("kind of element " + k, desk.object(0, k), kinds[k]);
            }
        }
    }

    private static void putRefusedByTwelve() {
        Check.sentence("Promise 3: false, refused, when there are 12");
        PlaceDesk desk = new PlaceDesk();
        Desks.putAll(desk, Z, Z, Z, Z, Z, Z, Z, Z, Z, Z, Z, J);
        for (int kind = Z; kind <= O; kind++) {
            Check.no("a 13th", desk.put(kind));
        }
        Check.due("instance()", desk.instance(), 0);
        Check.due("12 in it", desk.object(0, SIZE), 12);
        Check.due("the 12th is as put", desk.object(0, 11), J);
        Check.due("the first is as put", desk.object(0, 0), Z);
    }

    private static void putRefusedByKind() {
        Check.sentence("Promise 3: false, refused, when .. there is no such kind");
        PlaceDesk desk = new PlaceDesk();
        for (int kind : NO_KINDS) {
            Check.no("put(" + kind + ")", desk.put(kind));
        }
        Check.due("none came to the row", desk.instance(), NONE);
        Desks.putAll(desk, Z);
        for (int kind : NO_KINDS) {
            Check.no("put(" + kind + ")", desk.put(kind));
        }
        Desks.putAll(desk, O);
        Check.due("instance()", desk.instance(), 0);
        Check.due("two in it", desk.object(0, SIZE), 2);
        Check.due("the second", desk.object(0, 1), O);
    }

    private static void instance() {
        Check.each(
            PlaceDeskPromisesTest::instanceIsMade,
            PlaceDeskPromisesTest::instanceEmptiesTheRow,
            PlaceDeskPromisesTest::instanceRefusedEmptiesTheRow,
            PlaceDeskPromisesTest::instanceRefusedByObjects,
            PlaceDeskPromisesTest::instanceRefusedByAnEmptyRow,
            PlaceDeskPromisesTest::instanceRefusedByAllElements);
    }

    private static void instanceIsMade() {
        Check.sentence("Promise 4: A new INSTANCE with the kinds in the row: its number");
        PlaceDesk desk = new PlaceDesk();
        Desks.putAll(desk, O, J);
        Check.due("a row between", desk.row(B, 1), 0);
        Check.due("instance()", desk.instance(), 1);
        Check.due("its kind", desk.object(1, KIND), 0);
        Check.due("its size", desk.object(1, SIZE), 2);
        Check.due("its first", desk.object(1, 0), O);
        Check.due("its second", desk.object(1, 1), J);
        desk.place(1, 0);
        desk.place(1, 1);
        Desks.have(desk, 0, NULL, 0);
        Check.due("a row behind", desk.row(B, 1), 2);
    }

    private static void instanceEmptiesTheRow() {
        Check.sentence("Promise 4: (empty then");
        PlaceDesk desk = new PlaceDesk();
        Desks.putAll(desk, Z, B, S);
        Check.due("instance()", desk.instance(), 0);
        Check.due("instance() of an empty row", desk.instance(), NONE);
        Desks.putAll(desk, J);
        Check.due("instance()", desk.instance(), 1);
        Check.due("one in it", desk.object(1, SIZE), 1);
        Check.due("as put", desk.object(1, 0), J);
        Desks.putAll(desk, Z, Z, Z, Z, Z, Z, Z, Z, Z, Z, Z, Z);
    }

    private static void instanceRefusedEmptiesTheRow() {
        Check.sentence("Promise 4: empty then, also when it is refused)");
        PlaceDesk full = Desks.withElements(3999);
        Desks.putAll(full, I, J);
        Check.due("4,001 in all", full.instance(), NONE);
        Check.due("the row is empty", full.instance(), NONE);
        Desks.putAll(full, O);
        Check.due("4,000 in all", full.instance(), 20);
        Check.due("one in it", full.object(20, SIZE), 1);
        Check.due("as put", full.object(20, 0), O);
        PlaceDesk many = Desks.withObjects(300);
        Desks.putAll(many, I, J);
        Check.due("the 301st", many.instance(), NONE);
        Desks.putAll(many, Z, Z, Z, Z, Z, Z, Z, Z, Z, Z, Z, Z);
        Check.no("a 13th", many.put(Z));
    }

    private static void instanceRefusedByObjects() {
        Check.sentence("Promise 4: NONE, refused, when there are 300 OBJECTS");
        PlaceDesk desk = Desks.withObjects(299);
        Desks.putAll(desk, I);
        Check.due("the 300th", desk.instance(), 299);
        Desks.putAll(desk, J);
        Check.due("the 301st", desk.instance(), NONE);
        Desks.hasObjects(desk, 300);
        Check.due("the 300th is as it was", desk.object(299, 0), I);
    }

    private static void instanceRefusedByAnEmptyRow() {
        Check.sentence("Promise 4: NONE, refused, when .. the row is empty");
        PlaceDesk desk = new PlaceDesk();
        Check.due("instance()", desk.instance(), NONE);
        desk.row(I, 3);
        Check.due("instance()", desk.instance(), NONE);
        Desks.hasObjects(desk, 1);
    }

    private static void instanceRefusedByAllElements() {
        Check.sentence("Promise 4: NONE, refused, when .. all would have more than 4,000 ELEMENTS");
        PlaceDesk desk = Desks.withElements(3989);
        Desks.putAll(desk, I, I, I, I, I, I, I, I, I, I, I, I);
        Check.due("4,001 in all", desk.instance(), NONE);
        Desks.hasObjects(desk, 20);
        Desks.putAll(desk, I, I, I, I, I, I, I, I, I, I, I);
        Check.due("4,000 in all", desk.instance(), 20);
        Desks.putAll(desk, I);
        Check.due("4,001 in all", desk.instance(), NONE);
        Desks.hasObjects(desk, 21);
    }

    private static void object() {
        Check.each(
            PlaceDeskPromisesTest::objectKind,
            PlaceDeskPromisesTest::objectSize,
            PlaceDeskPromisesTest::objectElements,
            PlaceDeskPromisesTest::objectNoneSuch,
            PlaceDeskPromisesTest::objectNoSuchQuestion);
    }

    /** Rows of 3 C (0), of no O (2), of 200 J (3), and an instance of I and O (1). */
    private static PlaceDesk withFourObjects() {
        PlaceDesk desk = new PlaceDesk();
        desk.row(C, 3);
        Desks.putAll(desk, I, O);
        desk.instance();
        desk.row(O, 0);
        desk.row(J, 200);
        return desk;
    }

    private static void objectKind() {
        Check.sentence("Promise 5: the kind of its ELEMENTS, 0 of an INSTANCE (what -1)");
        PlaceDesk desk = withFourObjects();
        Check.due("of a row", desk.object(0, -1), C);
        Check.due("of an instance", desk.object(1, -1), 0);
        Check.due("of an empty row", desk.object(2, -1), O);
        Desks.putAll(desk, B);
        desk.instance();
        Check.due("of an instance of one", desk.object(4, -1), 0);
    }

    private static void objectSize() {
        Check.sentence("Promise 5: how many it has (-2)");
        PlaceDesk desk = withFourObjects();
        Check.due("of a row", desk.object(0, -2), 3);
        Check.due("of an instance", desk.object(1, -2), 2);
        Check.due("of an empty row", desk.object(2, -2), 0);
        Check.due("of the longest row", desk.object(3, -2), 200);
    }

    private static void objectElements() {
        Check.sentence("Promise 5: the kind of ELEMENT k (what k)");
        PlaceDesk desk = withFourObjects();
        Check.due("a row's first", desk.object(0, 0), C);
        Check.due("a row's last", desk.object(0, 2), C);
        Check.due("an instance's first", desk.object(1, 0), I);
        Check.due("an instance's last", desk.object(1, 1), O);
        Check.due("the longest row's last", desk.object(3, 199), J);
    }

    private static void objectNoneSuch() {
        Check.sentence("Promise 5: NONE when there is none such, OBJECT");
        PlaceDesk desk = withFourObjects();
        for (int what = -3; what <= 1; what++) {
            Check.due("object 4", desk.object(4, what), NONE);
            for (int far : Desks.FAR) {
                Check.due("object " + far, desk.object(far, what), NONE);
            }
        }
        Check.due("the 301st of 300", Desks.withObjects(300).object(300, SIZE), NONE);
    }

    private static void objectNoSuchQuestion() {
        Check.sentence("Promise 5: NONE when there is none such, ELEMENT");
        PlaceDesk desk = withFourObjects();
        int[] sizes = {3, 2, 0, 200};
        for (int i = 0; i < sizes.length; i++) {
            for (int what : new int[] {LOWEST, -4, -3, sizes[i], sizes[i] + 1, HIGHEST}) {
                Check.due("object(" + i + ", " + what + ")", desk.object(i, what), NONE);
            }
        }
    }

    private static void place() {
        Check.each(
            PlaceDeskPromisesTest::placeIsMade,
            PlaceDeskPromisesTest::placeRefusedByPlaces,
            PlaceDeskPromisesTest::placeRefusedByNoneSuch);
    }

    private static void placeIsMade() {
        Check.sentence("Promise 6: A new PLACE: ELEMENT k of an OBJECT: its number");
        PlaceDesk desk = withFourObjects();
        int[][] elements = {{0, 0}, {0, 2}, {1, 0}, {3, 0}, {3, 199}, {0, 2}};
        for (int p = 0; p < elements.length; p++) {
            Check.due("place", desk.place(elements[p][0], elements[p][1]), p);
        }
        for (int p = 0; p < 5; p++) {
            Check.act(desk, p, SET, p + 10, 0, 0);
        }
        Desks.have(desk, 0, 10, 11, 12, 13, 14, 11);
        Check.act(desk, 5, SET, 99, 0, 0);
        Desks.have(desk, 0, 10, 99, 12, 13, 14, 99);
    }

    private static void placeRefusedByPlaces() {
        Check.sentence("Promise 6: NONE, refused, when there are 100");
        PlaceDesk desk = Desks.withPlaces(99);
        Check.due("the 100th", desk.place(0, 150), 99);
        Check.due("the 101st", desk.place(0, 151), NONE);
        Desks.hasPlaces(desk, 100);
        Check.act(desk, 99, SWAP, 7, 0, 0);
        Check.due("the 101st", desk.place(0, 150), NONE);
        Check.act(desk, 99, GET, 0, 0, 7);
    }

    private static void placeRefusedByNoneSuch() {
        Check.sentence("Promise 6: NONE, refused, when .. there is none such");
        PlaceDesk desk = withFourObjects();
        int[] sizes = {3, 2, 0, 200};
        for (int i = 0; i < sizes.length; i++) {
            Check.due("behind the last of object " + i, desk.place(i, sizes[i]), NONE);
            for (int far : Desks.FAR) {
                Check.due("place(" + i + ", " + far + ")", desk.place(i, far), NONE);
            }
        }
        Check.due("object 4", desk.place(4, 0), NONE);
        for (int far : Desks.FAR) {
            Check.due("place(" + far + ", 0)", desk.place(far, 0), NONE);
        }
        Check.due("of the 301st of 300", Desks.withObjects(300).place(300, 0), NONE);
        Desks.hasPlaces(desk, 0);
        Check.due("the next number", desk.place(0, 2), 0);
    }

    private static void view() {
        Check.each(
            PlaceDeskPromisesTest::viewIsMade,
            PlaceDeskPromisesTest::viewRefusedByPlaces,
            PlaceDeskPromisesTest::viewRefusedByNoSuchRow,
            PlaceDeskPromisesTest::viewRefusedByNoSuchKind,
            PlaceDeskPromisesTest::viewRefusedByElements);
    }

    private static void viewIsMade() {
        Check.sentence("Promise 7: A new VIEW of a ROW of B from ELEMENT k on, of kind S, C, I or J: its number");
        PlaceDesk desk = new PlaceDesk();
        desk.row(B, 200);
        int next = 0;
        for (int kind = S; kind <= J; kind++) {
            int last = 200 - Desks.width(kind);
            Check.due("from the first on", desk.view(0, 0, kind, true), next++);
            Check.due("up to the last", desk.view(0, last, kind, false), next++);
            Check.due("kind", desk.kindOf(next - 1), kind);
            Check.due("a row of just as many", desk.row(B, Desks.width(kind)), kind - 2);
            Check.due("all of it", desk.view(kind - 2, 0, kind, true), next++);
            Check.act(desk, next - 1, SWAP, 1, 0, 0);
            Check.act(desk, next - 1, GET, 0, 0, 1);
        }
        Check.act(desk, 1, SET, 0x0102, 0, 0);
        Check.due("the 200th's place", desk.place(0, 199), next);
        Check.act(desk, next, GET, 0, 0, 2);
        Check.act(desk, 0, GET, 0, 0, 0);
    }

    private static void viewRefusedByPlaces() {
        Check.sentence("Promise 7: NONE, refused, when there are 100");
        PlaceDesk desk = Desks.withPlaces(99);
        Check.due("the 100th", desk.view(0, 100, C, true), 99);
        Check.due("the 101st", desk.view(0, 102, I, true), NONE);
        Desks.hasPlaces(desk, 100);
        Check.due("the 100th is as it was", desk.kindOf(99), C);
    }

    private static void viewRefusedByNoSuchRow() {
        Check.sentence("Promise 7: NONE, refused, when .. it is no such ROW");
        PlaceDesk desk = new PlaceDesk();
        Desks.putAll(desk, B, B, B, B, B, B, B, B, B, B, B, B);
        desk.instance();
        for (int kind : new int[] {Z, S, C, I, J, O}) {
            desk.row(kind, 20);
        }
        for (int kind = S; kind <= J; kind++) {
            for (int object = 0; object <= 7; object++) {
                Check.due("view(" + object + ", 0)", desk.view(object, 0, kind, true), NONE);
            }
            for (int far : Desks.FAR) {
                Check.due("view(" + far + ", 0)", desk.view(far, 0, kind, false), NONE);
            }
        }
        Check.due("of the 301st of 300", Desks.withObjects(300).view(300, 0, S, true), NONE);
        Desks.hasPlaces(desk, 0);
    }

    private static void viewRefusedByNoSuchKind() {
        Check.sentence("Promise 7: NONE, refused, when .. it is no such .. kind");
        PlaceDesk desk = new PlaceDesk();
        desk.row(B, 8);
        for (int kind : NO_KINDS) {
            Check.due("as kind " + kind, desk.view(0, 0, kind, true), NONE);
        }
        for (int kind : new int[] {Z, B, O}) {
            Check.due("as kind " + kind, desk.view(0, 0, kind, true), NONE);
            Check.due("as kind " + kind, desk.view(0, 7, kind, false), NONE);
        }
        Desks.hasPlaces(desk, 0);
    }

    private static void viewRefusedByElements() {
        Check.sentence("Promise 7: NONE, refused, when .. one of them isn't there");
        PlaceDesk desk = new PlaceDesk();
        desk.row(B, 9);
        desk.row(B, 200);
        desk.row(B, 0);
        desk.row(B, 1);
        for (int kind = S; kind <= J; kind++) {
            int width = Desks.width(kind);
            Check.due("the last isn't there", desk.view(0, 10 - width, kind, true), NONE);
            Check.due("just the first is there", desk.view(0, 8, kind, false), NONE);
            Check.due("none is there", desk.view(0, 9, kind, true), NONE);
            Check.due("the last of 200 isn't there", desk.view(1, 201 - width, kind, false), NONE);
            Check.due("the first isn't there", desk.view(0, -1, kind, true), NONE);
            Check.due("of an empty row", desk.view(2, 0, kind, true), NONE);
            Check.due("of a row of one", desk.view(3, 0, kind, true), NONE);
            for (int far : new int[] {LOWEST, LOWEST + 7, -8, HIGHEST - 8, HIGHEST - 7, HIGHEST - 1, HIGHEST}) {
                Check.due("from " + far + " on", desk.view(0, far, kind, true), NONE);
            }
        }
        Desks.hasPlaces(desk, 0);
        Check.due("the next number", desk.view(0, 1, J, true), 0);
    }

    private static void kindOf() {
        Check.each(
            PlaceDeskPromisesTest::kindOfPlaces,
            PlaceDeskPromisesTest::kindOfNoneSuch);
    }

    private static void kindOfPlaces() {
        Check.sentence("Promise 8: The kind of a PLACE");
        PlaceDesk desk = Desks.withEachKind();
        desk.row(B, 8);
        for (int kind = Z; kind <= O; kind++) {
            Check.due("of an instance's element", desk.kindOf(kind - 1), kind);
        }
        for (int kind = S; kind <= J; kind++) {
            Check.due("of a view, little", desk.kindOf(desk.view(1, 0, kind, true)), kind);
            Check.due("of a view, the first highest", desk.kindOf(desk.view(1, 0, kind, false)), kind);
        }
        Check.due("of a row's element", desk.kindOf(desk.place(1, 7)), B);
    }

    private static void kindOfNoneSuch() {
        Check.sentence("Promise 8: NONE when there is none such");
        PlaceDesk desk = Desks.withPlaces(3);
        Check.due("kindOf(2)", desk.kindOf(2), B);
        Check.due("kindOf(3)", desk.kindOf(3), NONE);
        Check.due("kindOf(100)", desk.kindOf(100), NONE);
        for (int far : Desks.FAR) {
            Check.due("kindOf(" + far + ")", desk.kindOf(far), NONE);
        }
        PlaceDesk full = Desks.withPlaces(100);
        Check.due("the 100th", full.kindOf(99), B);
        Check.due("the 101st", full.kindOf(100), NONE);
    }

    private static void act() {
        Check.each(
            PlaceDeskPromisesTest::actsByNumber,
            PlaceDeskPromisesTest::actsLookAtNothingElse,
            PlaceDeskPromisesTest::actRefusedByNoSuchPlace,
            PlaceDeskPromisesTest::actRefusedByNoSuchAct,
            PlaceDeskPromisesTest::actRefusedByItsKind,
            PlaceDeskPromisesTest::actRefusedByV,
            PlaceDeskPromisesTest::actRefusedByW,
            PlaceDeskPromisesTest::actRefusedByVOfViews,
            PlaceDeskPromisesTest::actRefusedByObjectsNumber);
    }

    private static void actsByNumber() {
        Check.sentence("Promise 9: 0 GET, 1 SET, .. 7 MOST: what it comes to (SET: 0)");
        PlaceDesk desk = Desks.withRow(I, 12);
        Check.act(desk, 0, 0, 0, 0, 12);
        Check.act(desk, 0, 1, 13, 0, 0);
        Check.act(desk, 0, 2, 14, 0, 13);
        Check.act(desk, 0, 3, 14, 15, 1);
        Check.act(desk, 0, 3, 14, 16, 0);
        Check.act(desk, 0, 4, 3, 0, 15);
        Check.act(desk, 0, 5, 22, 0, 18);
        Check.act(desk, 0, 6, 9, 0, 18);
        Check.act(desk, 0, 7, 40, 0, 27);
        Check.act(desk, 0, 0, 0, 0, 40);
    }

    private static void actsLookAtNothingElse() {
        Check.sentence("Promise 9: (v, w not looked at where there are none)");
        PlaceDesk desk = Desks.withEachKind();
        for (int p = 0; p < O; p++) {
            for (long odd : new long[] {Long.MIN_VALUE, -129, 65536, Long.MAX_VALUE}) {
                Check.act(desk, p, GET, odd, odd, p == O - 1 ? NULL : 0);
                Check.act(desk, p, SET, 0, odd, 0);
                Check.act(desk, p, SWAP, p == O - 1 ? NULL : 0, odd, 0);
            }
        }
        for (int p = 0; p < O - 1; p++) {
            for (int act = p == 0 ? AND : ADD; act <= MOST; act++) {
                Check.act(desk, p, act, 0, Long.MIN_VALUE, 0);
                Check.act(desk, p, act, 0, Long.MAX_VALUE, 0);
            }
        }
    }

    private static void actRefusedByNoSuchPlace() {
        Check.sentence("Promise 9: IllegalArgumentException, refused: there is no such PLACE");
        PlaceDesk desk = Desks.withPlaces(100);
        for (int act = GET; act <= MOST; act++) {
            Check.refused(desk, 100, act, 0, 0);
            for (int far : Desks.FAR) {
                Check.refused(desk, far, act, 0, 0);
            }
        }
        PlaceDesk two = Desks.withPlaces(2);
        Check.refused(two, 2, GET, 0, 0);
        Check.refused(two, 99, GET, 0, 0);
    }

    private static void actRefusedByNoSuchAct() {
        Check.sentence("Promise 9: IllegalArgumentException, refused: there is no such .. ACT");
        PlaceDesk desk = Desks.withEachKind();
        for (int p = 0; p < O; p++) {
            Check.refused(desk, p, 8, 0, 0);
            for (int far : Desks.FAR) {
                Check.refused(desk, p, far, 0, 0);
            }
        }
        Desks.have(desk, 0, 0, 0, 0, 0, 0, 0, NULL);
    }

    private static void actRefusedByItsKind() {
        Check.sentence("Promise 9: IllegalArgumentException, refused: .. not of its kind");
        PlaceDesk desk = Desks.withEachKind();
        Check.act(desk, 0, SET, 1, 0, 0);
        Check.refused(desk, 0, ADD, 0, 0);
        Check.refused(desk, 0, ADD, 1, 0);
        Check.act(desk, 0, GET, 0, 0, 1);
        Check.act(desk, O - 1, SET, 0, 0, 0);
        for (int act = ADD; act <= MOST; act++) {
            Check.refused(desk, O - 1, act, 0, 0);
            Check.refused(desk, O - 1, act, NULL, NULL);
        }
        Check.act(desk, O - 1, GET, 0, 0, 0);
    }

    private static void actRefusedByV() {
        Check.sentence("Promise 9: IllegalArgumentException, refused: .. v .. is no value of it");
        PlaceDesk desk = Desks.withEachKind();
        for (int kind = Z; kind <= I; kind++) {
            long below = Desks.least(kind) - 1;
            long above = Desks.greatest(kind) + 1;
            for (int act = SET; act <= MOST; act++) {
                Check.refused(desk, kind - 1, act, below, 0);
                Check.refused(desk, kind - 1, act, above, 0);
                Check.refused(desk, kind - 1, act, 1L << 32, 0);
            }
            Check.act(desk, kind - 1, GET, 0, 0, 0);
        }
    }

    private static void actRefusedByW() {
        Check.sentence("Promise 9: IllegalArgumentException, refused: .. w is no value of it");
        PlaceDesk desk = Desks.withEachKind();
        for (int kind = Z; kind <= I; kind++) {
            for (long w : new long[] {Desks.least(kind) - 1, Desks.greatest(kind) + 1, 1L << 32, Long.MIN_VALUE}) {
                Check.refused(desk, kind - 1, TRY, 0, w);
                Check.refused(desk, kind - 1, TRY, 1, w);
            }
            Check.act(desk, kind - 1, GET, 0, 0, 0);
        }
        for (long w : new long[] {-2, 1, 1L << 32, Long.MIN_VALUE, Long.MAX_VALUE}) {
            Check.refused(desk, O - 1, TRY, NULL, w);
            Check.refused(desk, O - 1, TRY, 0, w);
        }
        Check.act(desk, O - 1, GET, 0, 0, NULL);
    }

    private static void actRefusedByVOfViews() {
        Check.sentence("Promise 9: IllegalArgumentException, refused: .. v or w is no value of it, through a VIEW");
        PlaceDesk desk = new PlaceDesk();
        desk.row(B, 4);
        for (int kind = S; kind <= I; kind++) {
            int view = desk.view(0, 0, kind, kind == C);
            for (long v : new long[] {Desks.least(kind) - 1, Desks.greatest(kind) + 1}) {
                for (int act = SET; act <= MOST; act++) {
                    Check.refused(desk, view, act, v, 0);
                }
                Check.refused(desk, view, TRY, 0, v);
            }
            Check.act(desk, view, GET, 0, 0, 0);
        }
    }

    private static void actRefusedByObjectsNumber() {
        Check.sentence("Promise 9: IllegalArgumentException, refused: .. v or w is no value of it, of O");
        PlaceDesk desk = Desks.withEachKind();
        for (long v : new long[] {Long.MIN_VALUE, -2, 1, 1L << 32, Long.MAX_VALUE}) {
            for (int act = SET; act <= TRY; act++) {
                Check.refused(desk, O - 1, act, v, 0);
            }
        }
        Check.due("one more object", desk.row(Z, 0), 1);
        Check.act(desk, O - 1, SWAP, 1, 0, NULL);
        Check.act(desk, O - 1, TRY, 1, 1, 1);
        Check.refused(desk, O - 1, SET, 2, 0);
        Check.act(desk, O - 1, GET, 0, 0, 1);
    }

    private static void copy() {
        Check.each(
            PlaceDeskPromisesTest::copyToAnother,
            PlaceDeskPromisesTest::copyToTheSameUp,
            PlaceDeskPromisesTest::copyToTheSameDown,
            PlaceDeskPromisesTest::copyOfNone,
            PlaceDeskPromisesTest::copyOfAll,
            PlaceDeskPromisesTest::copyOfEachKind,
            PlaceDeskPromisesTest::copyRefusedByNoRow,
            PlaceDeskPromisesTest::copyRefusedByInstances,
            PlaceDeskPromisesTest::copyRefusedByElements,
            PlaceDeskPromisesTest::copyRefusedByElementsWithNone,
            PlaceDeskPromisesTest::copyRefusedByCount,
            PlaceDeskPromisesTest::copyRefusedByKinds);
    }

    /** Rows of I with 1 .. 5 (object 0, places 0 on) and with 11 .. 14 (object 1, places 5 on). */
    private static PlaceDesk withTwoRows() {
        PlaceDesk desk = Desks.withRow(I, 1, 2, 3, 4, 5);
        Desks.addRow(desk, I, 11, 12, 13, 14);
        return desk;
    }

    private static void twoRowsAreAsMade(PlaceDesk desk) {
        Desks.have(desk, 0, 1, 2, 3, 4, 5, 11, 12, 13, 14);
    }

    private static void copyToAnother() {
        Check.sentence("Promise 10: From ELEMENT a of a ROW on, n of them come to another one from ELEMENT b on");
        PlaceDesk desk = withTwoRows();
        Check.yes("one, the last to the first", desk.copy(0, 4, 1, 0, 1));
        Desks.have(desk, 0, 1, 2, 3, 4, 5, 5, 12, 13, 14);
        Check.yes("three, up to both ends", desk.copy(1, 1, 0, 2, 3));
        Desks.have(desk, 0, 1, 2, 12, 13, 14, 5, 12, 13, 14);
        Check.yes("three, from both beginnings", desk.copy(0, 0, 1, 0, 3));
        Desks.have(desk, 0, 1, 2, 12, 13, 14, 1, 2, 12, 14);
    }

    private static void copyToTheSameUp() {
        Check.sentence("Promise 10: (or the same) .. as they were ahead, b behind a");
        PlaceDesk desk = withTwoRows();
        Check.yes("copy(0, 0, 0, 1, 4)", desk.copy(0, 0, 0, 1, 4));
        Desks.have(desk, 0, 1, 1, 2, 3, 4, 11, 12, 13, 14);
        Check.yes("copy(1, 0, 1, 2, 2)", desk.copy(1, 0, 1, 2, 2));
        Desks.have(desk, 0, 1, 1, 2, 3, 4, 11, 12, 11, 12);
    }

    private static void copyToTheSameDown() {
        Check.sentence("Promise 10: (or the same) .. as they were ahead, b ahead of a, or at it");
        PlaceDesk desk = withTwoRows();
        Check.yes("copy(0, 1, 0, 0, 4)", desk.copy(0, 1, 0, 0, 4));
        Desks.have(desk, 0, 2, 3, 4, 5, 5, 11, 12, 13, 14);
        Check.yes("copy(0, 0, 0, 0, 5)", desk.copy(0, 0, 0, 0, 5));
        Desks.have(desk, 0, 2, 3, 4, 5, 5, 11, 12, 13, 14);
    }

    private static void copyOfNone() {
        Check.sentence("Promise 10: n of them come, n 0 (refused only below 0)");
        PlaceDesk desk = withTwoRows();
        Check.due("an empty row", desk.row(I, 0), 2);
        Check.yes("from the first to the first", desk.copy(0, 0, 1, 0, 0));
        Check.yes("from the last to the last", desk.copy(0, 4, 1, 3, 0));
        Check.yes("right behind the last ones", desk.copy(0, 5, 1, 4, 0));
        Check.yes("of an empty row", desk.copy(2, 0, 2, 0, 0));
        Check.yes("to an empty row", desk.copy(0, 0, 2, 0, 0));
        twoRowsAreAsMade(desk);
    }

    private static void copyOfAll() {
        Check.sentence("Promise 10: n of them come, all of a ROW of 200");
        PlaceDesk desk = new PlaceDesk();
        desk.row(J, 200);
        desk.row(J, 200);
        int[][] elements = {{0, 0}, {0, 99}, {0, 199}, {1, 0}, {1, 99}, {1, 199}};
        for (int[] element : elements) {
            desk.place(element[0], element[1]);
        }
        Check.act(desk, 0, SET, Long.MIN_VALUE, 0, 0);
        Check.act(desk, 1, SET, 5, 0, 0);
        Check.act(desk, 2, SET, Long.MAX_VALUE, 0, 0);
        Check.no("201 of them", desk.copy(0, 0, 1, 0, 201));
        Desks.have(desk, 3, 0, 0, 0);
        Check.yes("200 of them", desk.copy(0, 0, 1, 0, 200));
        Desks.have(desk, 3, Long.MIN_VALUE, 5, Long.MAX_VALUE);
        Check.yes("199 of them, up by one", desk.copy(1, 0, 1, 1, 199));
        Desks.have(desk, 3, Long.MIN_VALUE, 0, 0);
    }

    private static void copyOfEachKind() {
        Check.sentence("Promise 10: n of them come, of each kind");
        for (int kind = Z; kind <= O; kind++) {
            PlaceDesk desk = new PlaceDesk();
            desk.row(kind, 2);
            desk.row(kind, 2);
            desk.place(0, 1);
            desk.place(1, 0);
            Check.act(desk, 0, SET, 1, 0, 0);
            Check.yes("copy of kind " + kind, desk.copy(0, 1, 1, 0, 1));
            Check.act(desk, 1, GET, 0, 0, 1);
        }
    }

    private static void copyRefusedByNoRow() {
        Check.sentence("Promise 10: False, refused, when one isn't there, ROW");
        PlaceDesk desk = withTwoRows();
        for (int n = 0; n <= 1; n++) {
            Check.no("from object 2", desk.copy(2, 0, 0, 0, n));
            Check.no("to object 2", desk.copy(0, 0, 2, 0, n));
            Check.no("within object 2", desk.copy(2, 0, 2, 0, n));
            for (int far : Desks.FAR) {
                Check.no("from object " + far, desk.copy(far, 0, 0, 0, n));
                Check.no("to object " + far, desk.copy(0, 0, far, 0, n));
                Check.no("within object " + far, desk.copy(far, 0, far, 0, n));
            }
        }
        PlaceDesk full = Desks.withObjects(300);
        Check.no("from the 301st of 300", full.copy(300, 0, 0, 0, 0));
        Check.no("to the 301st of 300", full.copy(0, 0, 300, 0, 0));
        twoRowsAreAsMade(desk);
    }

    private static void copyRefusedByInstances() {
        Check.sentence("Promise 10: False, refused, when one isn't there, an INSTANCE being no ROW");
        PlaceDesk desk = withTwoRows();
        Desks.putAll(desk, I, I);
        Check.due("instance()", desk.instance(), 2);
        Desks.putAll(desk, I, I);
        Check.due("instance()", desk.instance(), 3);
        for (int n = 0; n <= 1; n++) {
            Check.no("from an instance", desk.copy(2, 0, 0, 0, n));
            Check.no("to an instance", desk.copy(0, 0, 2, 0, n));
            Check.no("within an instance", desk.copy(2, 0, 2, 1, n));
            Check.no("among instances", desk.copy(2, 0, 3, 0, n));
        }
        twoRowsAreAsMade(desk);
    }

    private static void copyRefusedByElements() {
        Check.sentence("Promise 10: False, refused, when one isn't there, ELEMENT");
        PlaceDesk desk = withTwoRows();
        Check.no("the source's last", desk.copy(0, 3, 1, 0, 3));
        Check.no("the target's last", desk.copy(0, 0, 1, 2, 3));
        Check.no("the source's only one", desk.copy(0, 5, 1, 0, 1));
        Check.no("the target's only one", desk.copy(0, 0, 1, 4, 1));
        Check.no("the source's first", desk.copy(0, -1, 1, 0, 2));
        Check.no("the target's first", desk.copy(0, 0, 1, -1, 2));
        Check.no("more than the target has", desk.copy(0, 0, 1, 0, 5));
        Check.no("more than the source has", desk.copy(1, 0, 0, 0, 5));
        Check.no("the same one's last", desk.copy(0, 0, 0, 1, 5));
        for (int far : Desks.FAR) {
            Check.no("a " + far, desk.copy(0, far, 1, 0, 1));
            Check.no("b " + far, desk.copy(0, 0, 1, far, 1));
            Check.no("a and b " + far, desk.copy(0, far, 1, far, 3));
        }
        Check.no("n greatest", desk.copy(0, 1, 1, 1, HIGHEST));
        Check.no("n greatest, from the first on", desk.copy(0, 0, 1, 0, HIGHEST));
        Check.no("a, b and n greatest", desk.copy(0, HIGHEST, 1, HIGHEST, HIGHEST));
        Check.no("a least, n greatest", desk.copy(0, LOWEST, 1, 0, HIGHEST));
        twoRowsAreAsMade(desk);
    }

    private static void copyRefusedByElementsWithNone() {
        Check.sentence("Promise 10: False, refused, when one isn't there, where 0 of them would begin");
        PlaceDesk desk = withTwoRows();
        Check.no("a behind the end", desk.copy(0, 6, 1, 0, 0));
        Check.no("b behind the end", desk.copy(0, 0, 1, 5, 0));
        for (int far : Desks.FAR) {
            Check.no("a " + far, desk.copy(0, far, 1, 0, 0));
            Check.no("b " + far, desk.copy(0, 0, 1, far, 0));
        }
        twoRowsAreAsMade(desk);
    }

    private static void copyRefusedByCount() {
        Check.sentence("Promise 10: False, refused, when .. n is below 0");
        PlaceDesk desk = withTwoRows();
        for (int n : new int[] {-1, -2, -5, LOWEST + 1, LOWEST}) {
            Check.no("n " + n, desk.copy(0, 2, 1, 2, n));
            Check.no("n " + n + " to the same", desk.copy(0, 5, 0, 5, n));
        }
        twoRowsAreAsMade(desk);
    }

    private static void copyRefusedByKinds() {
        Check.sentence("Promise 10: False, refused, when .. they are of different kinds");
        PlaceDesk desk = new PlaceDesk();
        for (int kind = Z; kind <= O; kind++) {
            desk.row(kind, 1);
        }
        for (int from = 0; from < O; from++) {
            for (int to = 0; to < O; to++) {
                for (int n = 0; n <= 1; n++) {
                    Check.due("copy(" + from + ", 0, " + to + ", 0, " + n + ")",
                        desk.copy(from, 0, to, 0, n) ? 1 : 0, from == to ? 1 : 0);
                }
            }
        }
    }

    private static void meet() {
        Check.each(
            PlaceDeskPromisesTest::meetInCommon,
            PlaceDeskPromisesTest::meetApart,
            PlaceDeskPromisesTest::meetAtAnObjectsEnd,
            PlaceDeskPromisesTest::meetNoSuchOnes);
    }

    private static void meetBothWays(PlaceDesk desk, int one, int two, boolean want) {
        Check.due("meet(" + one + ", " + two + ")", desk.meet(one, two) ? 1 : 0, want ? 1 : 0);
        Check.due("meet(" + two + ", " + one + ")", desk.meet(two, one) ? 1 : 0, want ? 1 : 0);
    }

    private static void meetInCommon() {
        Check.sentence("Promise 11: Whether two PLACES have ELEMENTS in common, one or all");
        PlaceDesk desk = Desks.withPlaces(20);
        int eight = desk.view(0, 7, J, true);
        meetBothWays(desk, eight, eight, true);
        meetBothWays(desk, 5, 5, true);
        meetBothWays(desk, 5, desk.place(0, 5), true);
        meetBothWays(desk, eight, 7, true);
        meetBothWays(desk, eight, 14, true);
        meetBothWays(desk, eight, desk.view(0, 7, J, false), true);
        meetBothWays(desk, eight, desk.view(0, 10, S, false), true);
        for (int kind = S; kind <= J; kind++) {
            meetBothWays(desk, eight, desk.view(0, 8 - Desks.width(kind), kind, true), true);
            meetBothWays(desk, eight, desk.view(0, 14, kind, false), true);
        }
    }

    private static void meetApart() {
        Check.sentence("Promise 11: Whether two PLACES have ELEMENTS in common, none");
        PlaceDesk desk = Desks.withPlaces(30);
        int eight = desk.view(0, 10, J, true);
        meetBothWays(desk, 9, 10, false);
        meetBothWays(desk, eight, 9, false);
        meetBothWays(desk, eight, 18, false);
        for (int kind = S; kind <= J; kind++) {
            meetBothWays(desk, eight, desk.view(0, 10 - Desks.width(kind), kind, true), false);
            meetBothWays(desk, eight, desk.view(0, 18, kind, false), false);
        }
        meetBothWays(desk, 0, 29, false);
    }

    private static void meetAtAnObjectsEnd() {
        Check.sentence("Promise 11: Whether two PLACES have ELEMENTS in common, of two OBJECTS none");
        PlaceDesk desk = new PlaceDesk();
        desk.row(B, 8);
        desk.row(B, 8);
        Desks.putAll(desk, B, B);
        desk.instance();
        int whole = desk.view(0, 0, J, true);
        int last = desk.place(0, 7);
        int first = desk.place(0, 0);
        int otherWhole = desk.view(1, 0, J, true);
        int otherFirst = desk.place(1, 0);
        int otherLast = desk.view(1, 6, S, true);
        int third = desk.place(2, 0);
        int thirdsSecond = desk.place(2, 1);
        int[][] apart = {{whole, otherWhole}, {last, otherFirst}, {first, otherFirst}, {whole, otherFirst},
            {last, otherWhole}, {otherWhole, third}, {otherLast, third}, {first, third}, {third, thirdsSecond}};
        for (int[] pair : apart) {
            meetBothWays(desk, pair[0], pair[1], false);
        }
        meetBothWays(desk, otherWhole, otherLast, true);
    }

    private static void meetNoSuchOnes() {
        Check.sentence("Promise 11: False when there are no such ones");
        PlaceDesk desk = Desks.withPlaces(2);
        meetBothWays(desk, 0, 2, false);
        meetBothWays(desk, 2, 2, false);
        for (int far : Desks.FAR) {
            meetBothWays(desk, 0, far, false);
            meetBothWays(desk, far, far, false);
        }
        PlaceDesk full = Desks.withPlaces(100);
        meetBothWays(full, 99, 99, true);
        meetBothWays(full, 99, 100, false);
        meetBothWays(full, 100, 100, false);
    }

    private static void mark() {
        Check.each(
            PlaceDeskPromisesTest::markIsMade,
            PlaceDeskPromisesTest::markRefusedByTwenty,
            PlaceDeskPromisesTest::markOfAFreedNumber);
    }

    private static void markIsMade() {
        Check.sentence("Promise 12: A new MARK: its number");
        PlaceDesk desk = Desks.withRow(I, 0);
        for (int i = 0; i < 20; i++) {
            Check.act(desk, 0, SET, i, 0, 0);
            Check.due("mark()", desk.mark(), i);
        }
        Check.act(desk, 0, SET, 99, 0, 0);
        for (int i = 19; i >= 0; i--) {
            Check.due("back(" + i + ")", desk.back(i), 1);
            Check.act(desk, 0, GET, 0, 0, i);
        }
    }

    private static void markRefusedByTwenty() {
        Check.sentence("Promise 12: NONE, refused, when there are 20");
        PlaceDesk desk = Desks.withMarks(20);
        Check.due("the 21st", desk.mark(), NONE);
        Check.due("and again", desk.mark(), NONE);
        Desks.hasMarks(desk, 20);
        Check.due("the 20th is as it was", desk.back(19), 1);
        Check.act(desk, 0, GET, 0, 0, 19);
        Check.due("the first is as it was", desk.back(0), 1);
        Check.act(desk, 0, GET, 0, 0, 0);
    }

    private static void markOfAFreedNumber() {
        Check.sentence("Promise 12: A new MARK: its number, when others are gone: as many as there are");
        PlaceDesk desk = Desks.withMarks(3);
        Check.due("back(0)", desk.back(0), 1);
        Check.act(desk, 0, SET, 50, 0, 0);
        Check.due("mark()", desk.mark(), 1);
        Check.act(desk, 0, SET, 51, 0, 0);
        Check.due("mark()", desk.mark(), 2);
        Check.act(desk, 0, SET, 52, 0, 0);
        Check.due("back(1)", desk.back(1), 1);
        Check.act(desk, 0, GET, 0, 0, 50);
    }

    private static void back() {
        Check.each(
            PlaceDeskPromisesTest::backCounts,
            PlaceDeskPromisesTest::backCountsNone,
            PlaceDeskPromisesTest::backCountsAll,
            PlaceDeskPromisesTest::backRefusedByNoneSuch,
            PlaceDeskPromisesTest::backLeavesPlacesAndTheRow);
    }

    private static void backCounts() {
        Check.sentence("Promise 13: Back to a MARK: how many ELEMENTS became others");
        PlaceDesk desk = Desks.withRow(I, 1, 2, 3);
        Check.due("mark()", desk.mark(), 0);
        Check.act(desk, 0, SET, 100, 0, 0);
        Check.due("mark()", desk.mark(), 1);
        Check.act(desk, 1, SET, 200, 0, 0);
        Check.due("mark()", desk.mark(), 2);
        Check.act(desk, 2, SET, 300, 0, 0);
        Check.due("back(1)", desk.back(1), 2);
        Desks.have(desk, 0, 100, 2, 3);
        Check.due("back(0)", desk.back(0), 1);
        Desks.have(desk, 0, 1, 2, 3);
    }

    private static void backCountsNone() {
        Check.sentence("Promise 13: how many ELEMENTS became others, none");
        PlaceDesk desk = Desks.withRow(J, 1, 2, 3);
        Check.due("mark()", desk.mark(), 0);
        Check.due("at once", desk.back(0), 0);
        Check.act(desk, 2, SET, 400, 0, 0);
        Check.act(desk, 2, SET, 3, 0, 0);
        Check.due("set, and set as it was", desk.back(0), 0);
        Desks.addRow(desk, J, 5, 6);
        Check.due("of an object made behind", desk.back(0), 0);
        Check.act(desk, 0, ADD, 1L << 32, 0, 1);
        Check.due("one, by its high bits alone", desk.back(0), 1);
        Check.due("none again", desk.back(0), 0);
    }

    private static void backCountsAll() {
        Check.sentence("Promise 13: how many ELEMENTS became others, all of 4,000");
        PlaceDesk desk = Desks.withElements(3800);
        Check.due("row(S, 200)", desk.row(S, 200), 19);
        Check.due("mark()", desk.mark(), 0);
        fillAllOf(desk, 19);
        Check.due("changed(0)", desk.changed(0), 4000);
        Check.due("back(0)", desk.back(0), 4000);
        Check.due("back(0) again", desk.back(0), 0);
        Check.act(desk, 0, GET, 0, 0, 0);
    }

    /** All elements of rows of 200, 0 up to this one, get 9: doubling within the last one, then row by row. */
    private static void fillAllOf(PlaceDesk desk, int last) {
        desk.place(last, 0);
        Check.act(desk, 0, SET, 9, 0, 0);
        for (int done = 1; done < 200; done *= 2) {
            Check.yes("doubling", desk.copy(last, 0, last, done, Math.min(done, 200 - done)));
        }
        for (int row = 0; row < last; row++) {
            Check.yes("row " + row, desk.copy(last, 0, row, 0, 200));
        }
    }

    private static void backRefusedByNoneSuch() {
        Check.sentence("Promise 13: NONE, refused, when there is none such");
        PlaceDesk desk = Desks.withMarks(3);
        Check.due("back(3)", desk.back(3), NONE);
        Check.due("back(20)", desk.back(20), NONE);
        for (int far : Desks.FAR) {
            Check.due("back(" + far + ")", desk.back(far), NONE);
        }
        Check.act(desk, 0, GET, 0, 0, 3);
        Desks.hasMarks(desk, 3);
        PlaceDesk full = Desks.withMarks(20);
        Check.due("back(20) of 20", full.back(20), NONE);
        Check.act(full, 0, GET, 0, 0, 20);
        Desks.hasMarks(full, 20);
    }

    private static void backLeavesPlacesAndTheRow() {
        Check.sentence("Promise 13: Back to a MARK, whose ELEMENTS alone come back");
        PlaceDesk desk = new PlaceDesk();
        desk.mark();
        desk.row(B, 4);
        desk.place(0, 0);
        desk.view(0, 0, I, true);
        Desks.putAll(desk, J, C);
        Check.due("back(0)", desk.back(0), 0);
        Desks.hasObjects(desk, 1);
        Desks.hasPlaces(desk, 2);
        Check.due("the kinds in the row stay", desk.instance(), 1);
        Check.due("both of them", desk.object(1, SIZE), 2);
    }

    private static void changed() {
        Check.each(
            PlaceDeskPromisesTest::changedCounts,
            PlaceDeskPromisesTest::changedOfObjectsThatThereWere,
            PlaceDeskPromisesTest::changedChangesNothing,
            PlaceDeskPromisesTest::changedNoneSuch);
    }

    private static void changedCounts() {
        Check.sentence("Promise 14: How many ELEMENTS differ from what they were at a MARK");
        PlaceDesk desk = new PlaceDesk();
        desk.row(B, 8);
        int view = desk.view(0, 0, J, true);
        Check.due("mark()", desk.mark(), 0);
        Check.due("none", desk.changed(0), 0);
        Check.act(desk, view, SET, 0x0101000000000001L, 0, 0);
        Check.due("three", desk.changed(0), 3);
        Check.due("mark()", desk.mark(), 1);
        Check.due("none since", desk.changed(1), 0);
        Check.act(desk, view, SET, 0x0100000000000100L, 0, 0);
        Check.due("two by mark 0", desk.changed(0), 2);
        Check.due("three by mark 1", desk.changed(1), 3);
        Check.act(desk, view, SET, -1, 0, 0);
        Check.due("all eight by mark 0", desk.changed(0), 8);
        Check.act(desk, view, SET, 0, 0, 0);
        Check.due("none by mark 0, as they were", desk.changed(0), 0);
    }

    private static void changedOfObjectsThatThereWere() {
        Check.sentence("Promise 14: (of OBJECTS that there were)");
        PlaceDesk desk = new PlaceDesk();
        Check.due("mark() of nothing", desk.mark(), 0);
        int first = Desks.addRow(desk, I, 5, 6);
        Check.due("mark() of two", desk.mark(), 1);
        int second = Desks.addRow(desk, O, 0, 1);
        Check.due("none by mark 0", desk.changed(0), 0);
        Check.due("none by mark 1", desk.changed(1), 0);
        Check.due("mark() of four", desk.mark(), 2);
        Check.act(desk, first, SET, 0, 0, 0);
        Check.act(desk, second, SET, NULL, 0, 0);
        Check.act(desk, second + 1, SET, NULL, 0, 0);
        Check.due("none by mark 0", desk.changed(0), 0);
        Check.due("one by mark 1", desk.changed(1), 1);
        Check.due("three by mark 2", desk.changed(2), 3);
    }

    private static void changedChangesNothing() {
        Check.sentence("Promise 14: How many ELEMENTS differ, and no MARK goes, no ELEMENT comes back");
        PlaceDesk desk = Desks.withMarks(3);
        for (int i = 0; i < 2; i++) {
            for (int m = 0; m < 3; m++) {
                Check.due("changed(" + m + ")", desk.changed(m), 1);
            }
        }
        Check.act(desk, 0, GET, 0, 0, 3);
        Desks.hasMarks(desk, 3);
    }

    private static void changedNoneSuch() {
        Check.sentence("Promise 14: NONE when there is none such");
        PlaceDesk desk = Desks.withMarks(3);
        Check.due("changed(3)", desk.changed(3), NONE);
        for (int far : Desks.FAR) {
            Check.due("changed(" + far + ")", desk.changed(far), NONE);
        }
        Check.due("back(1)", desk.back(1), 1);
        Check.due("changed(2), gone", desk.changed(2), NONE);
        Check.due("changed(1), there", desk.changed(1), 0);
        PlaceDesk full = Desks.withMarks(20);
        Check.due("changed(20) of 20", full.changed(20), NONE);
        Check.due("changed(19) of 20", full.changed(19), 1);
    }
}
