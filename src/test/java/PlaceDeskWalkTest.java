import java.math.BigInteger;
import java.nio.ByteBuffer;
import java.nio.ByteOrder;
import java.util.ArrayList;
import java.util.Arrays;
import java.util.HashSet;
import java.util.List;
import java.util.Random;
import java.util.Set;

/** Long walks of calls, each answer held against a second, plainer telling of the document on other means. */
public final class PlaceDeskWalkTest {
    private static final int WALKS = 3000;
    private static final int CALLS = 512;

    public static void main(String[] args) {
        for (int walk = 0; walk < WALKS && Check.wrongSoFar() < 20; walk++) {
            walk(new Random(walk));
        }
        Check.end();
    }

    /** What one object of the document has: its kind (0 of an instance), the kinds and the values of its elements. */
    private static final class Thing {
        int kind;
        int[] kinds;
        long[] values;
    }

    /** A place by its object and its element numbers. */
    private static final class Place {
        int object;
        int kind;
        boolean view;
        boolean little;
        List<Integer> elements = new ArrayList<>();
    }

    private static final class Model {
        final List<Thing> things = new ArrayList<>();
        final List<Integer> row = new ArrayList<>();
        final List<Place> places = new ArrayList<>();
        final List<List<long[]>> marks = new ArrayList<>();

        int add(int kind, int[] kinds) {
            int all = kinds.length;
            for (Thing thing : things) {
                all += thing.kinds.length;
            }
            if (things.size() == 300 || all > 4000) {
                return -1;
            }
            Thing thing = new Thing();
            thing.kind = kind;
            thing.kinds = kinds;
            thing.values = new long[kinds.length];
            for (int k = 0; k < kinds.length; k++) {
                thing.values[k] = kinds[k] == 7 ? -1 : 0;
            }
            things.add(thing);
            return things.size() - 1;
        }

        int row(int kind, int n) {
            if (kind < 1 || kind > 7 || n < 0 || n > 200) {
                return -1;
            }
            int[] kinds = new int[n];
            Arrays.fill(kinds, kind);
            return add(kind, kinds);
        }

        boolean put(int kind) {
            return kind >= 1 && kind <= 7 && row.size() < 12 && row.add(kind);
        }

        int instance() {
            int[] kinds = row.stream().mapToInt(Integer::intValue).toArray();
            row.clear();
            return kinds.length == 0 ? -1 : add(0, kinds);
        }

        Thing thing(int object) {
            return object < 0 || object >= things.size() ? null : things.get(object);
        }

        int object(int object, int what) {
            Thing thing = thing(object);
            if (thing == null || what < -2 || what >= thing.kinds.length) {
                return -1;
            }
            return what == -1 ? thing.kind : what == -2 ? thing.kinds.length : thing.kinds[what];
        }

        int place(int object, int k, int kind, int width, boolean little) {
            Thing thing = thing(object);
            if (places.size() == 100 || thing == null || width < 1) {
                return -1;
            }
            Place place = new Place();
            for (long e = k; e < (long) k + width; e++) {
                if (e < 0 || e >= thing.kinds.length) {
                    return -1;
                }
                place.elements.add((int) e);
            }
            place.object = object;
            place.view = width > 1;
            place.kind = place.view ? kind : thing.kinds[k];
            place.little = little;
            places.add(place);
            return places.size() - 1;
        }

        int view(int object, int k, int kind, boolean little) {
            int[] widths = {0, 0, 0, 2, 2, 4, 8, 0};
            Thing thing = thing(object);
            if (thing == null || thing.kind != 2 || kind < 0 || kind > 7) {
                return -1;
            }
            return place(object, k, kind, widths[kind], little);
        }

        int kindOf(int place) {
            return place < 0 || place >= places.size() ? -1 : places.get(place).kind;
        }

        ByteBuffer bytes(Place place) {
            ByteBuffer buffer = ByteBuffer.allocate(place.elements.size());
            return buffer.order(place.little ? ByteOrder.LITTLE_ENDIAN : ByteOrder.BIG_ENDIAN);
        }

        long get(Place place) {
            long[] values = things.get(place.object).values;
            if (!place.view) {
                return values[place.elements.get(0)];
            }
            ByteBuffer buffer = bytes(place);
            for (int e : place.elements) {
                buffer.put((byte) values[e]);
            }
            switch (place.kind) {
                case 3: return buffer.getShort(0);
                case 4: return buffer.getChar(0);
                case 5: return buffer.getInt(0);
                default: return buffer.getLong(0);
            }
        }

        void set(Place place, long v) {
            long[] values = things.get(place.object).values;
            if (!place.view) {
                values[place.elements.get(0)] = v;
                return;
            }
            ByteBuffer buffer = bytes(place);
            switch (place.kind) {
                case 3: buffer.putShort(0, (short) v); break;
                case 4: buffer.putChar(0, (char) v); break;
                case 5: buffer.putInt(0, (int) v); break;
                default: buffer.putLong(0, v);
            }
            int at = 0;
            for (int e : place.elements) {
                values[e] = buffer.get(at++);
            }
        }

        long least(int kind) {
            return new long[] {0, 0, -128, -32768, 0, Integer.MIN_VALUE, Long.MIN_VALUE, -1}[kind];
        }

        long most(int kind) {
            return new long[] {0, 1, 127, 32767, 65535, Integer.MAX_VALUE, Long.MAX_VALUE, things.size() - 1}[kind];
        }

        boolean value(int kind, long v) {
            return v >= least(kind) && v <= most(kind);
        }

        /** The sum moved into the kind's bounds by as many whole rounds as it takes. */
        long sum(int kind, long had, long v) {
            BigInteger low = BigInteger.valueOf(least(kind));
            BigInteger round = BigInteger.valueOf(most(kind)).subtract(low).add(BigInteger.ONE);
            return BigInteger.valueOf(had).add(BigInteger.valueOf(v)).subtract(low).mod(round).add(low).longValueExact();
        }

        long act(int number, int act, long v, long w) {
            int kind = kindOf(number);
            boolean refused = kind == -1 || act < 0 || act > 7 || (kind == 7 && act > 3) || (kind == 1 && act == 4);
            if (refused || (act > 0 && !value(kind, v)) || (act == 3 && !value(kind, w))) {
                throw new IllegalArgumentException();
            }
            Place place = places.get(number);
            long had = get(place);
            switch (act) {
                case 0: return had;
                case 1: set(place, v); return 0;
                case 2: set(place, v); return had;
                case 3: set(place, had == v ? w : had); return had == v ? 1 : 0;
                case 4: set(place, sum(kind, had, v)); return had;
                case 5: set(place, had & v); return had;
                case 6: set(place, had | v); return had;
                default: set(place, v > had ? v : had); return had;
            }
        }

        boolean copy(int from, int a, int to, int b, int n) {
            Thing one = thing(from);
            Thing two = thing(to);
            if (one == null || two == null || one.kind == 0 || one.kind != two.kind || n < 0 || a < 0 || b < 0) {
                return false;
            }
            if ((long) a + n > one.kinds.length || (long) b + n > two.kinds.length) {
                return false;
            }
            long[] ahead = one.values.clone();
            for (int i = 0; i < n; i++) {
                two.values[b + i] = ahead[a + i];
            }
            return true;
        }

        boolean meet(int one, int two) {
            if (kindOf(one) == -1 || kindOf(two) == -1 || places.get(one).object != places.get(two).object) {
                return false;
            }
            Set<Integer> common = new HashSet<>(places.get(one).elements);
            common.retainAll(places.get(two).elements);
            return !common.isEmpty();
        }

        int mark() {
            if (marks.size() == 20) {
                return -1;
            }
            List<long[]> all = new ArrayList<>();
            for (Thing thing : things) {
                all.add(thing.values.clone());
            }
            marks.add(all);
            return marks.size() - 1;
        }

        int changed(int mark) {
            if (mark < 0 || mark >= marks.size()) {
                return -1;
            }
            int count = 0;
            for (int i = 0; i < marks.get(mark).size(); i++) {
                long[] was = marks.get(mark).get(i);
                for (int k = 0; k < was.length; k++) {
                    count += was[k] == things.get(i).values[k] ? 0 : 1;
                }
            }
            return count;
        }

        int back(int mark) {
            int count = changed(mark);
            if (count != -1) {
                for (int i = 0; i < marks.get(mark).size(); i++) {
                    things.get(i).values = marks.get(mark).get(i).clone();
                }
                while (marks.size() > mark + 1) {
                    marks.remove(marks.size() - 1);
                }
            }
            return count;
        }
    }

    private static final int[] ODD = {Integer.MIN_VALUE, -3, -2, -1, 0, 1, 2, 3, 7, 8, 12, 100, 199, 200, 201,
        Integer.MAX_VALUE - 1, Integer.MAX_VALUE};

    /** Mostly a number below bound, at times one that is odd. */
    private static int some(Random random, int bound) {
        return random.nextInt(12) == 0 ? ODD[random.nextInt(ODD.length)] : random.nextInt(Math.max(1, bound) + 1);
    }

    /** A number near an edge of some kind, or anywhere. */
    private static long value(Random random) {
        long[] edges = {0, 0, -128, 127, -32768, 32767, 65535, Integer.MIN_VALUE, Integer.MAX_VALUE, Long.MIN_VALUE,
            Long.MAX_VALUE, 255};
        switch (random.nextInt(3)) {
            case 0: return edges[random.nextInt(edges.length)] + random.nextInt(5) - 2;
            case 1: return random.nextLong() >> random.nextInt(64);
            default: return random.nextInt(6) - 2;
        }
    }

    private static void walk(Random random) {
        PlaceDesk desk = new PlaceDesk();
        Model model = new Model();
        int size = random.nextInt(4) == 0 ? 200 : 12;
        int making = random.nextInt(3) == 0 ? 14 : 5;
        for (int call = 0; call < CALLS; call++) {
            if (random.nextInt(20) < making) {
                make(random, desk, model, size);
            } else {
                use(random, desk, model, size);
            }
        }
    }

    private static void make(Random random, PlaceDesk desk, Model model, int size) {
        int object = some(random, model.things.size());
        int kind = random.nextInt(3) == 0 ? 2 : some(random, 7);
        int k = some(random, size);
        boolean little = random.nextBoolean();
        switch (random.nextInt(7)) {
            case 0: Check.due("row " + kind + " " + k, desk.row(kind, k), model.row(kind, k)); break;
            case 1:
            case 2: Check.due("put " + kind, desk.put(kind) ? 1 : 0, model.put(kind) ? 1 : 0); break;
            case 3: Check.due("instance", desk.instance(), model.instance()); break;
            case 4: Check.due("place " + object + " " + k, desk.place(object, k), model.place(object, k, 0, 1, false)); break;
            case 5:
                kind = some(random, 7);
                Check.due("view " + object + " " + k + " " + kind, desk.view(object, k, kind, little),
                    model.view(object, k, kind, little));
                break;
            default: Check.due("mark", desk.mark(), model.mark());
        }
    }

    private static void use(Random random, PlaceDesk desk, Model model, int size) {
        int object = some(random, model.things.size());
        int other = random.nextBoolean() ? object : some(random, model.things.size());
        int place = some(random, model.places.size());
        int mark = some(random, model.marks.size());
        int k = some(random, size);
        switch (random.nextInt(16)) {
            case 0: Check.due("object " + object + " " + k, desk.object(object, k - 2), model.object(object, k - 2)); break;
            case 1: Check.due("kindOf " + place, desk.kindOf(place), model.kindOf(place)); break;
            case 2:
            case 3:
                int b = some(random, size);
                int n = some(random, size / 2);
                Check.due("copy " + object + " " + k + " " + other + " " + b + " " + n,
                    desk.copy(object, k, other, b, n) ? 1 : 0, model.copy(object, k, other, b, n) ? 1 : 0);
                break;
            case 4:
                int second = some(random, model.places.size());
                Check.due("meet " + place + " " + second, desk.meet(place, second) ? 1 : 0, model.meet(place, second) ? 1 : 0);
                break;
            case 5: Check.due("changed " + mark, desk.changed(mark), model.changed(mark)); break;
            case 6: Check.due("back " + mark, desk.back(mark), model.back(mark)); break;
            default: actOnBoth(desk, model, place, some(random, 8), value(random), value(random));
        }
    }

    private static void actOnBoth(PlaceDesk desk, Model model, int place, int act, long v, long w) {
        long want;
        try {
            want = model.act(place, act, v, w);
        } catch (IllegalArgumentException e) {
            Check.refused(desk, place, act, v, w);
            return;
        }
        Check.act(desk, place, act, v, w, want);
    }
}
