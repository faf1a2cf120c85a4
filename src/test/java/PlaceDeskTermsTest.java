/** A test for each sentence of "What it is" and of Terms 1 to 3 that names a bound, nothing, all, or lost bits. */
public final class PlaceDeskTermsTest implements Words {
    public static void main(String[] args) {
        Check.each(
            PlaceDeskTermsTest::theFullestObjectInItsLastCall,
            PlaceDeskTermsTest::marksMadeAndLostInAllCalls,
            PlaceDeskTermsTest::kinds,
            PlaceDeskTermsTest::valuesOfObjects,
            PlaceDeskTermsTest::objectsNumberedAsMade,
            PlaceDeskTermsTest::objectsAtMost,
            PlaceDeskTermsTest::objectsNeverGone,
            PlaceDeskTermsTest::rowsOfOneKind,
            PlaceDeskTermsTest::rowsFromNoneToAll,
            PlaceDeskTermsTest::elementsAtMost,
            PlaceDeskTermsTest::elementsAtMostWithInstances,
            PlaceDeskTermsTest::instancesFromOneToTwelve,
            PlaceDeskTermsTest::elementsAtFirst,
            PlaceDeskTermsTest::elementsAtFirstBehindBack,
            PlaceDeskTermsTest::placesNumbered,
            PlaceDeskTermsTest::placesAtMost,
            PlaceDeskTermsTest::viewsOfElementsOneBehindTheOther,
            PlaceDeskTermsTest::viewsWithTheFirstLowest,
            PlaceDeskTermsTest::viewsWithTheFirstHighest,
            PlaceDeskTermsTest::get,
            PlaceDeskTermsTest::set,
            PlaceDeskTermsTest::swap,
            PlaceDeskTermsTest::tryThatHits,
            PlaceDeskTermsTest::tryThatMisses,
            PlaceDeskTermsTest::addWithinBounds,
            PlaceDeskTermsTest::addBeyondTheGreatest,
            PlaceDeskTermsTest::addBelowTheLeast,
            PlaceDeskTermsTest::addTwiceTheBounds,
            PlaceDeskTermsTest::addThroughViews,
            PlaceDeskTermsTest::addNotOfZAndO,
            PlaceDeskTermsTest::and,
            PlaceDeskTermsTest::or,
            PlaceDeskTermsTest::andOrThroughViews,
            PlaceDeskTermsTest::andOrNotOfO,
            PlaceDeskTermsTest::mostTakesTheGreater,
            PlaceDeskTermsTest::mostOfFarApart,
            PlaceDeskTermsTest::mostNotOfO,
            PlaceDeskTermsTest::markOfNothing,
            PlaceDeskTermsTest::markOfAllElements,
            PlaceDeskTermsTest::backBringsThemBack,
            PlaceDeskTermsTest::backLeavesWhatWasMadeBehind,
            PlaceDeskTermsTest::marksBehindGo,
            PlaceDeskTermsTest::thatMarkStays,
            PlaceDeskTermsTest::marksAtMost);
        Check.end();
    }

    private static void theFullestObjectInItsLastCall() {
        Check.sentence("What it is: at most 512 calls; with all that there may be, the 512th answers as the first");
        PlaceDesk desk = new PlaceDesk();
        for (int i = 0; i < 19; i++) {
            Check.due("row(B, 200)", desk.row(B, 200), i);
        }
        Check.due("row(O, 188)", desk.row(O, 188), 19);
        Desks.putAll(desk, Z, B, S, C, I, J, O, Z, B, S, C, I);
        Check.due("instance()", desk.instance(), 20);
        for (int i = 21; i < 300; i++) {
            Check.due("row(J, 0)", desk.row(J, 0), i);
        }
        for (int i = 0; i < 100; i++) {
            Check.due("place(20, 11)", desk.place(20, 11), i);
        }
        for (int i = 0; i < 20; i++) {
            Check.due("mark()", desk.mark(), i);
        }
        int calls = 19 + 1 + 12 + 1 + 279 + 100 + 20;
        for (int had = 0; calls < 511; had++) {
            Check.act(desk, 99, ADD, 1, 0, had);
            calls++;
        }
        Check.due("the 512th: back(0)", desk.back(0), 1);
    }

    private static void marksMadeAndLostInAllCalls() {
        Check.sentence("What it is: at most 512 calls; marks of 4,000 ELEMENTS, made and lost again in all of them");
        PlaceDesk desk = Desks.withElements(4000);
        Check.due("place(19, 199)", desk.place(19, 199), 0);
        Check.due("mark()", desk.mark(), 0);
        int calls = 22;
        for (int i = 1; calls + 3 <= 512; i++) {
            Check.act(desk, 0, SET, i, 0, 0);
            Check.due("mark()", desk.mark(), 1);
            Check.due("back(0)", desk.back(0), 1);
            calls += 3;
        }
    }

    private static void kinds() {
        boundsOf("Z (0, 1)", Z);
        boundsOf("B (-128 .. 127)", B);
        boundsOf("S (-32,768 .. 32,767)", S);
        boundsOf("C (0 .. 65,535)", C);
        boundsOf("I (an int)", I);
        boundsOf("J (a long)", J);
    }

    private static void boundsOf(String words, int kind) {
        Check.sentence("Terms 1: " + words);
        PlaceDesk desk = Desks.withEachKind();
        boundsAt(desk, kind - 1, kind);
        if (Desks.width(kind) > 1) {
            desk.row(B, 8);
            boundsAt(desk, desk.view(1, 0, kind, true), kind);
            boundsAt(desk, desk.view(1, 0, kind, false), kind);
        }
    }

    private static void boundsAt(PlaceDesk desk, int place, int kind) {
        long least = Desks.least(kind);
        long greatest = Desks.greatest(kind);
        for (long v : new long[] {least, greatest}) {
            Check.act(desk, place, SET, v, 0, 0);
            Check.act(desk, place, SWAP, v, 0, v);
            Check.act(desk, place, TRY, v, v, 1);
            Check.act(desk, place, GET, 0, 0, v);
        }
        if (kind != J) {
            for (long v : new long[] {least - 1, greatest + 1, Long.MIN_VALUE, Long.MAX_VALUE}) {
                Check.refused(desk, place, SET, v, 0);
                Check.refused(desk, place, TRY, greatest, v);
            }
        }
        Check.act(desk, place, GET, 0, 0, greatest);
    }

    private static void valuesOfObjects() {
        Check.sentence("Terms 1: of O -1 for NULL, or an OBJECT's number");
        PlaceDesk desk = new PlaceDesk();
        desk.row(O, 1);
        desk.place(0, 0);
        Check.act(desk, 0, SET, 0, 0, 0);
        Check.act(desk, 0, SWAP, -1, 0, 0);
        Check.refused(desk, 0, SET, 1, 0);
        Check.refused(desk, 0, SET, -2, 0);
        Check.refused(desk, 0, SET, 1L << 32, 0);
        Check.refused(desk, 0, SET, Long.MIN_VALUE, 0);
        Check.refused(desk, 0, SET, Long.MAX_VALUE, 0);
        Check.act(desk, 0, GET, 0, 0, -1);
        for (int i = 1; i < 300; i++) {
            desk.row(Z, 0);
        }
        Check.act(desk, 0, SET, 1, 0, 0);
        Check.act(desk, 0, SWAP, 299, 0, 1);
        Check.refused(desk, 0, SET, 300, 0);
        Check.act(desk, 0, GET, 0, 0, 299);
    }

    private static void objectsNumberedAsMade() {
        Check.sentence("Terms 1: OBJECTS are numbered from 0 on as they are made");
        PlaceDesk desk = new PlaceDesk();
        Check.due("a row", desk.row(I, 3), 0);
        Check.due("a row refused", desk.row(I, 201), NONE);
        Desks.putAll(desk, J, Z);
        Check.due("an instance", desk.instance(), 1);
        Check.due("an instance refused", desk.instance(), NONE);
        Check.due("a row of none", desk.row(C, 0), 2);
        Check.due("a row", desk.row(S, 1), 3);
        Check.due("kind of 0", desk.object(0, KIND), I);
        Check.due("kind of 1", desk.object(1, KIND), 0);
        Check.due("kind of 2", desk.object(2, KIND), C);
        Check.due("kind of 3", desk.object(3, KIND), S);
        Desks.hasObjects(desk, 4);
    }

    private static void objectsAtMost() {
        Check.sentence("Terms 1: OBJECTS, 300 at most");
        PlaceDesk desk = Desks.withObjects(298);
        Desks.putAll(desk, O);
        Check.due("the 299th, an instance", desk.instance(), 298);
        Check.due("the 300th, a row", desk.row(O, 1), 299);
        Check.due("the 301st, a row", desk.row(O, 0), NONE);
        Desks.putAll(desk, O);
        Check.due("the 301st, an instance", desk.instance(), NONE);
        Desks.hasObjects(desk, 300);
    }

    private static void objectsNeverGone() {
        Check.sentence("Terms 1: OBJECTS, never gone");
        PlaceDesk desk = new PlaceDesk();
        Check.due("mark()", desk.mark(), 0);
        Check.due("row(C, 2)", desk.row(C, 2), 0);
        Desks.putAll(desk, B);
        Check.due("instance()", desk.instance(), 1);
        Check.due("back(0)", desk.back(0), 0);
        Check.due("the row's size", desk.object(0, SIZE), 2);
        Check.due("the row's kind", desk.object(0, KIND), C);
        Check.due("the instance's kind", desk.object(1, 0), B);
        Check.due("the next number", desk.row(C, 0), 2);
    }

    private static void rowsOfOneKind() {
        for (int kind = Z; kind <= O; kind++) {
            Check.sentence("Terms 1: ROWS, whose ELEMENTS are of one kind, here " + kind);
            PlaceDesk desk = new PlaceDesk();
            desk.row(kind % O + 1, 1);
            Check.due("row", desk.row(kind, 200), 1);
            for (int k = 0; k < 200; k++) {
                Check.due("kind of element " + k, desk.object(1, k), kind);
            }
        }
    }

    private static void rowsFromNoneToAll() {
        Check.sentence("Terms 1: ROWS, 0 to 200 of them");
        PlaceDesk desk = new PlaceDesk();
        Check.due("row of -1", desk.row(B, -1), NONE);
        Check.due("row of 0", desk.row(B, 0), 0);
        Check.due("row of 1", desk.row(B, 1), 1);
        Check.due("row of 200", desk.row(B, 200), 2);
        Check.due("row of 201", desk.row(B, 201), NONE);
        Check.due("0 of them", desk.object(0, SIZE), 0);
        Check.due("1 of them", desk.object(1, SIZE), 1);
        Check.due("200 of them", desk.object(2, SIZE), 200);
        Check.due("the first of none", desk.place(0, 0), NONE);
        Check.due("the only one", desk.place(1, 0), 0);
        Check.due("the 200th", desk.place(2, 199), 1);
        Check.due("the 201st", desk.place(2, 200), NONE);
        Check.act(desk, 1, SET, 5, 0, 0);
        Check.act(desk, 1, GET, 0, 0, 5);
    }

    private static void elementsAtMost() {
        Check.sentence("Terms 1: all together at most 4,000");
        PlaceDesk desk = Desks.withElements(3800);
        Check.due("200 more, 4,000 in all", desk.row(J, 200), 19);
        Check.due("1 more, 4,001 in all", desk.row(J, 1), NONE);
        Check.due("200 more, 4,200 in all", desk.row(J, 200), NONE);
        Check.due("0 more", desk.row(J, 0), 20);
        Check.due("the 4,000th", desk.place(19, 199), 0);
        Check.act(desk, 0, SWAP, Long.MIN_VALUE, 0, 0);
        Check.act(desk, 0, GET, 0, 0, Long.MIN_VALUE);
    }

    private static void elementsAtMostWithInstances() {
        Check.sentence("Terms 1: all together at most 4,000, of ROWS and INSTANCES");
        PlaceDesk desk = Desks.withElements(3988);
        Desks.putAll(desk, I, I, I, I, I, I, I, I, I, I, I, O);
        Check.due("12 more, 4,000 in all", desk.instance(), 20);
        Desks.putAll(desk, I);
        Check.due("1 more by an instance", desk.instance(), NONE);
        Check.due("1 more by a row", desk.row(Z, 1), NONE);
        Check.due("the 4,000th", desk.place(20, 11), 0);
        Check.act(desk, 0, SWAP, 20, 0, NULL);
        Check.act(desk, 0, GET, 0, 0, 20);
    }

    private static void instancesFromOneToTwelve() {
        Check.sentence("Terms 1: INSTANCES, whose ELEMENTS (1 to 12) have a kind each");
        PlaceDesk desk = new PlaceDesk();
        Check.due("of none", desk.instance(), NONE);
        Desks.putAll(desk, C);
        Check.due("of 1", desk.instance(), 0);
        int[] kinds = {O, J, I, C, S, B, Z, B, S, C, I, J};
        Desks.putAll(desk, kinds);
        Check.no("a 13th", desk.put(O));
        Check.due("of 12", desk.instance(), 1);
        Check.due("1 in it", desk.object(0, SIZE), 1);
        Check.due("its kind", desk.object(0, 0), C);
        Check.due("12 in it", desk.object(1, SIZE), 12);
        for (int k = 0; k < 12; k++) {
            Check.due("kind of element " + k, desk.object(1, k), kinds[k]);
        }
        Check.due("no 13th in it", desk.object(1, 12), NONE);
    }

    private static void elementsAtFirst() {
        Check.sentence("Terms 1: They are 0, NULL at first");
        PlaceDesk instance = Desks.withEachKind();
        Desks.have(instance, 0, 0, 0, 0, 0, 0, 0, NULL);
        for (int kind = Z; kind <= O; kind++) {
            PlaceDesk desk = new PlaceDesk();
            desk.row(kind, 100);
            for (int k = 0; k < 100; k++) {
                Check.due("place(0, " + k + ")", desk.place(0, k), k);
                Check.act(desk, k, GET, 0, 0, kind == O ? NULL : 0);
            }
        }
    }

    private static void elementsAtFirstBehindBack() {
        Check.sentence("Terms 1: They are 0, NULL at first, also of OBJECTS made when a MARK was gone back to");
        PlaceDesk desk = Desks.withRow(J, 7, 8);
        desk.mark();
        Desks.addRow(desk, I, 3, 4, 5);
        desk.back(0);
        desk.row(O, 1);
        Desks.putAll(desk, O, I);
        desk.instance();
        int first = desk.place(2, 0);
        desk.place(3, 0);
        desk.place(3, 1);
        Desks.have(desk, first, NULL, NULL, 0);
    }

    private static void placesNumbered() {
        Check.sentence("Terms 1: PLACES are numbered from 0 on, each of a kind");
        PlaceDesk desk = new PlaceDesk();
        desk.row(B, 8);
        Desks.putAll(desk, O);
        desk.instance();
        Check.due("refused, no number taken", desk.place(0, 8), NONE);
        Check.due("an element of a row", desk.place(0, 7), 0);
        Check.due("refused, no number taken", desk.view(0, 1, J, true), NONE);
        Check.due("a view", desk.view(0, 0, J, true), 1);
        Check.due("an element of an instance", desk.place(1, 0), 2);
        Check.due("the same element again", desk.place(0, 7), 3);
        Check.due("the same view again", desk.view(0, 0, J, true), 4);
        int[] kinds = {B, J, O, B, J, NONE};
        for (int p = 0; p < kinds.length; p++) {
            Check.due("kindOf(" + p + ")", desk.kindOf(p), kinds[p]);
        }
    }

    private static void placesAtMost() {
        Check.sentence("Terms 1: PLACES, 100 at most");
        PlaceDesk desk = Desks.withPlaces(98);
        Check.due("the 99th, a view", desk.view(0, 0, S, true), 98);
        Check.due("the 100th, a place", desk.place(0, 199), 99);
        Check.due("the 101st, a place", desk.place(0, 0), NONE);
        Check.due("the 101st, a view", desk.view(0, 0, S, true), NONE);
        Desks.hasPlaces(desk, 100);
        Check.act(desk, 99, SET, -3, 0, 0);
        Check.act(desk, 99, GET, 0, 0, -3);
        Check.act(desk, 0, GET, 0, 0, 0);
    }

    private static void viewsOfElementsOneBehindTheOther() {
        for (int kind = S; kind <= J; kind++) {
            Check.sentence("Terms 1: a VIEW of a ROW of B: 2, 4 or 8 ELEMENTS, one behind the other, of kind " + kind);
            for (boolean little : new boolean[] {true, false}) {
                PlaceDesk desk = Desks.withRow(B, new long[12]);
                int view = desk.view(0, 2, kind, little);
                Check.act(desk, view, SET, kind == C ? 65535 : -1, 0, 0);
                for (int k = 0; k < 12; k++) {
                    boolean within = k >= 2 && k < 2 + Desks.width(kind);
                    Check.act(desk, k, GET, 0, 0, within ? -1 : 0);
                }
            }
        }
    }

    private static void viewsWithTheFirstLowest() {
        Check.sentence("Terms 1: the first one lowest (LITTLE)");
        PlaceDesk desk = Desks.withRow(B, 0x11, -2, 0x33, -4, 0x55, 0x66, 0x77, -128);
        int first = desk.view(0, 0, S, true);
        desk.view(0, 0, C, true);
        desk.view(0, 0, I, true);
        desk.view(0, 0, J, true);
        Desks.have(desk, first, (short) 0xFE11, 0xFE11, 0xFC33FE11, 0x80776655FC33FE11L);
        Check.act(desk, first + 3, SET, 0x0102030405060780L, 0, 0);
        Desks.have(desk, 0, -128, 7, 6, 5, 4, 3, 2, 1);
        Check.act(desk, first + 2, SET, 0x7F0000FF, 0, 0);
        Desks.have(desk, 0, -1, 0, 0, 127, 4, 3, 2, 1);
        Check.act(desk, first + 1, SET, 0xFF01, 0, 0);
        Desks.have(desk, 0, 1, -1, 0, 127, 4, 3, 2, 1);
        Check.act(desk, first, SET, -32768, 0, 0);
        Desks.have(desk, 0, 0, -128, 0, 127, 4, 3, 2, 1);
    }

    private static void viewsWithTheFirstHighest() {
        Check.sentence("Terms 1: the first one .. highest");
        PlaceDesk desk = Desks.withRow(B, -2, 0x11, -4, 0x33, 0x55, 0x66, -128, 0x77);
        int first = desk.view(0, 0, S, false);
        desk.view(0, 0, C, false);
        desk.view(0, 0, I, false);
        desk.view(0, 0, J, false);
        Desks.have(desk, first, (short) 0xFE11, 0xFE11, 0xFE11FC33, 0xFE11FC3355668077L);
        Check.act(desk, first + 3, SET, 0x0102030405060780L, 0, 0);
        Desks.have(desk, 0, 1, 2, 3, 4, 5, 6, 7, -128);
        Check.act(desk, first + 2, SET, 0x7F0000FF, 0, 0);
        Desks.have(desk, 0, 127, 0, 0, -1, 5, 6, 7, -128);
        Check.act(desk, first + 1, SET, 0xFF01, 0, 0);
        Desks.have(desk, 0, -1, 1, 0, -1, 5, 6, 7, -128);
        Check.act(desk, first, SET, -32768, 0, 0);
        Desks.have(desk, 0, -128, 0, 0, -1, 5, 6, 7, -128);
    }

    private static void get() {
        Check.sentence("Terms 2: GET: what it has");
        PlaceDesk desk = Desks.withRow(J, Long.MIN_VALUE, 0, Long.MAX_VALUE);
        Desks.have(desk, 0, Long.MIN_VALUE, 0, Long.MAX_VALUE);
        Desks.have(desk, 0, Long.MIN_VALUE, 0, Long.MAX_VALUE);
    }

    private static void set() {
        Check.sentence("Terms 2: SET v");
        PlaceDesk desk = Desks.withRow(J, 1, 2, 3);
        Check.act(desk, 1, SET, Long.MIN_VALUE, 9, 0);
        Desks.have(desk, 0, 1, Long.MIN_VALUE, 3);
        Check.act(desk, 1, SET, Long.MAX_VALUE, 9, 0);
        Desks.have(desk, 0, 1, Long.MAX_VALUE, 3);
    }

    private static void swap() {
        Check.sentence("Terms 2: SWAP v: what it had; it has v then");
        PlaceDesk desk = Desks.withRow(I, 1, -2147483648, 3);
        Check.act(desk, 1, SWAP, 2147483647, 9, -2147483648);
        Desks.have(desk, 0, 1, 2147483647, 3);
        Check.act(desk, 1, SWAP, 2147483647, 9, 2147483647);
        Desks.have(desk, 0, 1, 2147483647, 3);
    }

    private static void tryThatHits() {
        Check.sentence("Terms 2: TRY v, w: 1 if it has v, then it has w");
        PlaceDesk desk = Desks.withEachKind();
        for (int kind = Z; kind <= J; kind++) {
            Check.act(desk, kind - 1, TRY, 0, Desks.greatest(kind), 1);
            Check.act(desk, kind - 1, TRY, Desks.greatest(kind), Desks.least(kind), 1);
            Check.act(desk, kind - 1, GET, 0, 0, Desks.least(kind));
            Check.act(desk, kind - 1, TRY, Desks.least(kind), Desks.least(kind), 1);
            Check.act(desk, kind - 1, GET, 0, 0, Desks.least(kind));
        }
        Check.act(desk, 6, TRY, NULL, 0, 1);
        Check.act(desk, 6, TRY, 0, NULL, 1);
        Check.act(desk, 6, GET, 0, 0, NULL);
    }

    private static void tryThatMisses() {
        Check.sentence("Terms 2: TRY v, w: .. else 0");
        PlaceDesk desk = Desks.withEachKind();
        for (int kind = Z; kind <= J; kind++) {
            Check.act(desk, kind - 1, TRY, 1, Desks.greatest(kind), 0);
            Check.act(desk, kind - 1, GET, 0, 0, 0);
        }
        Check.act(desk, 5, SET, 1L << 32, 0, 0);
        Check.act(desk, 5, TRY, 0, 5, 0);
        Check.act(desk, 5, GET, 0, 0, 1L << 32);
        Check.act(desk, 6, TRY, 0, 0, 0);
        Check.act(desk, 6, GET, 0, 0, NULL);
    }

    private static void addWithinBounds() {
        Check.sentence("Terms 2: ADD v: what it had; the sum .. then");
        PlaceDesk desk = Desks.withEachKind();
        for (int kind = B; kind <= J; kind++) {
            long greatest = Desks.greatest(kind);
            Check.act(desk, kind - 1, ADD, greatest - 1, 0, 0);
            Check.act(desk, kind - 1, ADD, 1, 0, greatest - 1);
            Check.act(desk, kind - 1, ADD, 0, 0, greatest);
            Check.act(desk, kind - 1, GET, 0, 0, greatest);
        }
        for (int kind : new int[] {B, S, I, J}) {
            Check.act(desk, kind - 1, ADD, Desks.least(kind), 0, Desks.greatest(kind));
            Check.act(desk, kind - 1, GET, 0, 0, -1);
        }
    }

    private static void addBeyondTheGreatest() {
        Check.sentence("Terms 2: ADD: the sum's lowest bits as of its kind, beyond the greatest");
        PlaceDesk desk = Desks.withEachKind();
        for (int kind = B; kind <= J; kind++) {
            Check.act(desk, kind - 1, SET, Desks.greatest(kind), 0, 0);
            Check.act(desk, kind - 1, ADD, 1, 0, Desks.greatest(kind));
            Check.act(desk, kind - 1, GET, 0, 0, Desks.least(kind));
        }
    }

    private static void addBelowTheLeast() {
        Check.sentence("Terms 2: ADD: the sum's lowest bits as of its kind, below the least");
        PlaceDesk desk = Desks.withEachKind();
        for (int kind : new int[] {B, S, I, J}) {
            Check.act(desk, kind - 1, SET, Desks.least(kind), 0, 0);
            Check.act(desk, kind - 1, ADD, -1, 0, Desks.least(kind));
            Check.act(desk, kind - 1, GET, 0, 0, Desks.greatest(kind));
        }
        Check.act(desk, C - 1, ADD, 65535, 0, 0);
        Check.act(desk, C - 1, ADD, 65535, 0, 65535);
        Check.act(desk, C - 1, GET, 0, 0, 65534);
    }

    private static void addTwiceTheBounds() {
        Check.sentence("Terms 2: ADD: the sum's lowest bits as of its kind, a bound to itself");
        PlaceDesk desk = Desks.withEachKind();
        for (int kind : new int[] {B, S, I, J}) {
            Check.act(desk, kind - 1, SET, Desks.least(kind), 0, 0);
            Check.act(desk, kind - 1, ADD, Desks.least(kind), 0, Desks.least(kind));
            Check.act(desk, kind - 1, SET, Desks.greatest(kind), 0, 0);
            Check.act(desk, kind - 1, ADD, Desks.greatest(kind), 0, Desks.greatest(kind));
            Check.act(desk, kind - 1, GET, 0, 0, -2);
        }
        Check.act(desk, B - 1, SET, -128, 0, 0);
        Check.act(desk, B - 1, ADD, -128, 0, -128);
        Check.act(desk, B - 1, GET, 0, 0, 0);
    }

    private static void addThroughViews() {
        for (int kind = S; kind <= J; kind++) {
            Check.sentence("Terms 2: ADD: the sum's lowest bits as of its kind, through a VIEW of kind " + kind);
            for (boolean little : new boolean[] {true, false}) {
                PlaceDesk desk = Desks.withRow(B, new long[10]);
                int view = desk.view(0, 1, kind, little);
                Check.act(desk, view, SET, Desks.greatest(kind), 0, 0);
                Check.act(desk, view, ADD, 1, 0, Desks.greatest(kind));
                Check.act(desk, view, ADD, Desks.greatest(kind), 0, Desks.least(kind));
                Check.act(desk, view, GET, 0, 0, Desks.least(kind) + Desks.greatest(kind));
                Check.act(desk, 0, GET, 0, 0, 0);
                Check.act(desk, 1 + Desks.width(kind), GET, 0, 0, 0);
            }
        }
    }

    private static void addNotOfZAndO() {
        Check.sentence("Terms 2: ADD (not of Z, O)");
        PlaceDesk desk = Desks.withEachKind();
        Check.refused(desk, Z - 1, ADD, 0, 0);
        Check.refused(desk, Z - 1, ADD, 1, 0);
        Check.refused(desk, O - 1, ADD, NULL, 0);
        Check.refused(desk, O - 1, ADD, 0, 0);
        Desks.have(desk, 0, 0, 0, 0, 0, 0, 0, NULL);
    }

    private static void and() {
        Check.sentence("Terms 2: AND v: likewise (what it had; the bits then)");
        PlaceDesk desk = Desks.withEachKind();
        for (int kind = Z; kind <= J; kind++) {
            long greatest = Desks.greatest(kind);
            Check.act(desk, kind - 1, SET, greatest, 0, 0);
            Check.act(desk, kind - 1, AND, greatest, 0, greatest);
            Check.act(desk, kind - 1, AND, 1, 0, greatest);
            Check.act(desk, kind - 1, AND, 0, 0, 1);
            Check.act(desk, kind - 1, AND, greatest, 0, 0);
            Check.act(desk, kind - 1, GET, 0, 0, 0);
        }
        for (int kind : new int[] {B, S, I, J}) {
            Check.act(desk, kind - 1, SET, -1, 0, 0);
            Check.act(desk, kind - 1, AND, Desks.least(kind), 0, -1);
            Check.act(desk, kind - 1, AND, Desks.greatest(kind), 0, Desks.least(kind));
            Check.act(desk, kind - 1, GET, 0, 0, 0);
        }
    }

    private static void or() {
        Check.sentence("Terms 2: OR v: likewise (what it had; the bits then)");
        PlaceDesk desk = Desks.withEachKind();
        for (int kind = Z; kind <= J; kind++) {
            long greatest = Desks.greatest(kind);
            Check.act(desk, kind - 1, OR, 0, 0, 0);
            Check.act(desk, kind - 1, OR, 1, 0, 0);
            Check.act(desk, kind - 1, OR, greatest, 0, 1);
            Check.act(desk, kind - 1, OR, 0, 0, greatest);
            Check.act(desk, kind - 1, GET, 0, 0, greatest);
        }
        for (int kind : new int[] {B, S, I, J}) {
            Check.act(desk, kind - 1, SET, Desks.least(kind), 0, 0);
            Check.act(desk, kind - 1, OR, Desks.greatest(kind), 0, Desks.least(kind));
            Check.act(desk, kind - 1, GET, 0, 0, -1);
        }
    }

    private static void andOrThroughViews() {
        Check.sentence("Terms 2: AND v, OR v: likewise, through a VIEW");
        PlaceDesk desk = Desks.withRow(B, -1, -128, 127, 1);
        int little = desk.view(0, 0, C, true);
        int big = desk.view(0, 0, I, false);
        Check.act(desk, little, AND, 0xFF01, 0, 0x80FF);
        Desks.have(desk, 0, 1, -128, 127, 1);
        Check.act(desk, big, OR, -2147483648, 0, 0x01807F01);
        Desks.have(desk, 0, -127, -128, 127, 1);
        Check.act(desk, big, AND, 0x7FFF00FF, 0, 0x81807F01);
        Desks.have(desk, 0, 1, -128, 0, 1);
        Check.act(desk, little, OR, 0x7FFE, 0, 0x8001);
        Desks.have(desk, 0, -1, -1, 0, 1);
    }

    private static void andOrNotOfO() {
        Check.sentence("Terms 2: AND v, OR v (not of O)");
        PlaceDesk desk = Desks.withEachKind();
        for (int act : new int[] {AND, OR}) {
            Check.refused(desk, O - 1, act, NULL, 0);
            Check.refused(desk, O - 1, act, 0, 0);
        }
        Check.act(desk, O - 1, GET, 0, 0, NULL);
    }

    private static void mostTakesTheGreater() {
        Check.sentence("Terms 2: MOST v: what it had; the greater one then");
        PlaceDesk desk = Desks.withEachKind();
        for (int kind = Z; kind <= J; kind++) {
            Check.act(desk, kind - 1, MOST, 0, 0, 0);
            Check.act(desk, kind - 1, MOST, 1, 0, 0);
            Check.act(desk, kind - 1, MOST, 0, 0, 1);
            Check.act(desk, kind - 1, GET, 0, 0, 1);
        }
        for (int kind : new int[] {B, S, I, J}) {
            Check.act(desk, kind - 1, SET, -6, 0, 0);
            Check.act(desk, kind - 1, MOST, -7, 0, -6);
            Check.act(desk, kind - 1, MOST, -5, 0, -6);
            Check.act(desk, kind - 1, GET, 0, 0, -5);
        }
    }

    private static void mostOfFarApart() {
        Check.sentence("Terms 2: MOST v: the greater one, of the least and the greatest");
        PlaceDesk desk = Desks.withEachKind();
        desk.row(B, 8);
        for (int kind = Z; kind <= J; kind++) {
            mostAt(desk, kind - 1, kind);
            if (Desks.width(kind) > 1) {
                mostAt(desk, desk.view(1, 0, kind, true), kind);
                mostAt(desk, desk.view(1, 0, kind, false), kind);
            }
        }
    }

    private static void mostAt(PlaceDesk desk, int place, int kind) {
        long least = Desks.least(kind);
        long greatest = Desks.greatest(kind);
        Check.act(desk, place, SET, least, 0, 0);
        Check.act(desk, place, MOST, greatest, 0, least);
        Check.act(desk, place, MOST, least, 0, greatest);
        Check.act(desk, place, GET, 0, 0, greatest);
    }

    private static void mostNotOfO() {
        Check.sentence("Terms 2: MOST v (PLAIN)");
        PlaceDesk desk = Desks.withEachKind();
        Check.refused(desk, O - 1, MOST, 0, 0);
        Check.refused(desk, O - 1, MOST, NULL, 0);
        Check.act(desk, O - 1, GET, 0, 0, NULL);
    }

    private static void markOfNothing() {
        Check.sentence("Terms 3: mark() remembers all ELEMENTS as they are, when there are none");
        PlaceDesk desk = new PlaceDesk();
        Check.due("mark()", desk.mark(), 0);
        Check.due("changed(0)", desk.changed(0), 0);
        Check.due("back(0)", desk.back(0), 0);
        desk.row(I, 0);
        Check.due("mark()", desk.mark(), 1);
        Check.due("changed(1)", desk.changed(1), 0);
        Check.due("back(1)", desk.back(1), 0);
    }

    private static void markOfAllElements() {
        Check.sentence("Terms 3: mark() remembers all ELEMENTS as they are, when there are 4,000");
        PlaceDesk desk = Desks.withElements(3800);
        desk.row(J, 200);
        desk.place(0, 0);
        desk.place(19, 199);
        Check.act(desk, 0, SET, -32768, 0, 0);
        Check.act(desk, 1, SET, Long.MIN_VALUE, 0, 0);
        Check.due("mark()", desk.mark(), 0);
        Check.act(desk, 0, SET, 32767, 0, 0);
        Check.act(desk, 1, SET, Long.MAX_VALUE, 0, 0);
        Check.due("changed(0)", desk.changed(0), 2);
        Check.due("back(0)", desk.back(0), 2);
        Desks.have(desk, 0, -32768, Long.MIN_VALUE);
    }

    private static void backBringsThemBack() {
        Check.sentence("Terms 3: back() to a MARK brings them back");
        PlaceDesk desk = Desks.withEachKind();
        Check.due("mark()", desk.mark(), 0);
        for (int kind = Z; kind <= J; kind++) {
            Check.act(desk, kind - 1, SET, Desks.greatest(kind), 0, 0);
        }
        Check.act(desk, O - 1, SET, 0, 0, 0);
        Check.due("mark()", desk.mark(), 1);
        for (int kind = B; kind <= J; kind++) {
            Check.act(desk, kind - 1, SET, Desks.least(kind), 0, 0);
        }
        Check.due("back(1)", desk.back(1), 5);
        Desks.have(desk, 0, 1, 127, 32767, 65535, Integer.MAX_VALUE, Long.MAX_VALUE, 0);
        Check.due("back(0)", desk.back(0), 7);
        Desks.have(desk, 0, 0, 0, 0, 0, 0, 0, NULL);
    }

    private static void backLeavesWhatWasMadeBehind() {
        Check.sentence("Terms 3: but for OBJECTS made behind it, which stay as they are");
        PlaceDesk desk = Desks.withRow(O, NULL);
        Check.due("mark()", desk.mark(), 0);
        int behind = Desks.addRow(desk, I, 5, 6);
        Desks.putAll(desk, C);
        Check.due("instance()", desk.instance(), 2);
        desk.place(2, 0);
        Check.due("mark()", desk.mark(), 1);
        Check.act(desk, 0, SET, 2, 0, 0);
        Check.act(desk, behind, SET, 7, 0, 0);
        Check.act(desk, behind + 2, SET, 65535, 0, 0);
        Check.due("back(0)", desk.back(0), 1);
        Desks.have(desk, 0, NULL, 7, 6, 65535);
        Check.act(desk, 0, SET, 2, 0, 0);
        Check.due("mark() of all of them now", desk.mark(), 1);
        Check.act(desk, behind + 2, SET, 1, 0, 0);
        Check.due("back(1)", desk.back(1), 1);
        Desks.have(desk, 0, 2, 7, 6, 65535);
    }

    private static void marksBehindGo() {
        Check.sentence("Terms 3: all MARKS behind that one go");
        PlaceDesk desk = Desks.withMarks(20);
        Check.due("back(19), the last: none go", desk.back(19), 1);
        Desks.hasMarks(desk, 20);
        Check.due("back(18): one goes", desk.back(18), 1);
        Desks.hasMarks(desk, 19);
        Check.due("back(19)", desk.back(19), NONE);
        Check.due("back(0): all others go", desk.back(0), 1);
        for (int m = 1; m < 20; m++) {
            Check.due("back(" + m + ")", desk.back(m), NONE);
            Check.due("changed(" + m + ")", desk.changed(m), NONE);
        }
        Check.act(desk, 0, GET, 0, 0, 0);
    }

    private static void thatMarkStays() {
        Check.sentence("Terms 3: (that one stays)");
        PlaceDesk desk = Desks.withMarks(3);
        for (int i = 0; i < 3; i++) {
            Check.due("back(1)", desk.back(1), 1);
            Check.act(desk, 0, SWAP, 50, 0, 1);
            Check.due("changed(1)", desk.changed(1), 1);
        }
        Check.due("the one ahead stays too: back(0)", desk.back(0), 1);
        Check.act(desk, 0, GET, 0, 0, 0);
        Check.due("back(0) again", desk.back(0), 0);
    }

    private static void marksAtMost() {
        Check.sentence("Terms 3: MARKS .. 20 at most");
        PlaceDesk desk = Desks.withMarks(19);
        Check.due("the 20th", desk.mark(), 19);
        Check.act(desk, 0, SET, 77, 0, 0);
        Check.due("the 21st", desk.mark(), NONE);
        Check.due("the 20th remembers what it did", desk.changed(19), 1);
        Check.due("back(17)", desk.back(17), 1);
        Check.due("room for the 19th", desk.mark(), 18);
        Check.due("room for the 20th", desk.mark(), 19);
        Check.due("none for the 21st", desk.mark(), NONE);
    }
}
