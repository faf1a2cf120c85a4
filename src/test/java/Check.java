/** Counts and prints the answers that are not the ones that are due. */
final class Check {
    private static int wrong = 0;
    private static int seen = 0;

    private Check() {
    }

    static void due(String call, long got, long want) {
        seen++;
        if (got != want) {
            wrong++;
            System.out.println(call + " answered " + got + ", due is " + want);
        }
    }

    static void yes(String call, boolean got) {
        due(call, got ? 1 : 0, 1);
    }

    static void no(String call, boolean got) {
        due(call, got ? 1 : 0, 0);
    }

    static void act(PlaceDesk desk, int place, int act, long v, long w, long want) {
        String call = "act(" + place + ", " + act + ", " + v + ", " + w + ")";
        try {
            due(call, desk.act(place, act, v, w), want);
        } catch (IllegalArgumentException e) {
            wrong++;
            System.out.println(call + " is refused, due is " + want);
        }
    }

    static void refused(PlaceDesk desk, int place, int act, long v, long w) {
        String call = "act(" + place + ", " + act + ", " + v + ", " + w + ")";
        seen++;
        try {
            long got = desk.act(place, act, v, w);
            wrong++;
            System.out.println(call + " answered " + got + ", due is IllegalArgumentException");
        } catch (IllegalArgumentException e) {
            return;
        }
    }

    static int wrongSoFar() {
        return wrong;
    }

    static void end() {
        System.out.println(wrong == 0 ? "all " + seen + " answers are as due" : wrong + " answers are not as due");
        if (wrong != 0) {
            System.exit(1);
        }
    }
}
