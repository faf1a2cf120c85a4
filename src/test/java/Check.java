/** Counts and prints the answers that are not the ones that are due. */
final class Check {
    private static int wrong = 0;
    private static int seen = 0;
    private static int sentences = 0;
    private static int seenAtSentence = 0;
    private static String sentence = "";

    private Check() {
    }

    /** The document's words that the next answers are due by, until the next such call. */
    static void sentence(String words) {
        endSentence();
        sentence = words;
        sentences++;
        seenAtSentence = seen;
    }

    /** Runs tests; what one of them throws is a wrong answer of the sentence that it stands at. */
    static void each(Runnable... tests) {
        for (Runnable test : tests) {
            try {
                test.run();
            } catch (RuntimeException e) {
                seen++;
                tellWrong("a call throws " + e);
            }
        }
    }

    static void due(String call, long got, long want) {
        seen++;
        if (got != want) {
            tellWrong(call + " answered " + got + ", due is " + want);
        }
    }

    static void yes(String call, boolean got) {
        due(call, got ? 1 : 0, 1);
    }

    static void no(String call, boolean got) {
        due(call, got ? 1 : 0, 0);
    }

    static void act(PlaceDesk desk, int place, int act, long v, long w, long want) {
        String call = "act(" + place + ", " + act + ", " + v + ", " + w + ")";
        try {
            due(call, desk.act(place, act, v, w), want);
        } catch (IllegalArgumentException e) {
            seen++;
            tellWrong(call + " is refused, due is " + want);
        }
    }

    static void refused(PlaceDesk desk, int place, int act, long v, long w) {
        String call = "act(" + place + ", " + act + ", " + v + ", " + w + ")";
        seen++;
        try {
            long got = desk.act(place, act, v, w);
            tellWrong(call + " answered " + got + ", due is IllegalArgumentException");
        } catch (IllegalArgumentException e) {
            if (e.getClass() != IllegalArgumentException.class) {
                tellWrong(call + " throws " + e.getClass() + ", due is IllegalArgumentException");
            }
        }
    }

    static int wrongSoFar() {
        return wrong;
    }

    static void end() {
        endSentence();
        String by = sentences == 0 ? "" : ", by " + sentences + " sentences";
        System.out.println(wrong == 0 ? "all " + seen + " answers are as due" + by : wrong + " answers are not as due");
        if (wrong != 0) {
            System.exit(1);
        }
    }

    // A sentence without an answer would pass whatever the class does.
    private static void endSentence() {
        if (sentences > 0 && seen == seenAtSentence) {
            tellWrong("no answer is looked at");
        }
    }

    private static void tellWrong(String what) {
        wrong++;
        System.out.println(sentence.isEmpty() ? what : "[" + sentence + "] " + what);
    }
}
