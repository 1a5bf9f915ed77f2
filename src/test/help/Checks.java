/** Counts what is not as due, by the sentence of the document that is being tested. */
final class Checks {
    static final int LEAST = Integer.MIN_VALUE;
    static final int MOST = Integer.MAX_VALUE;

    private static String sentence = "";
    private static int sentences = 0;
    private static int checks = 0;
    private static int wrong = 0;

    private Checks() { }

    /** Begins the test of a sentence, which is given in the document's words. */
    static void sentence(String words) {
        sentence = words;
        sentences++;
    }

    static void due(String what, long got, long want) {
        due(what, Long.toString(got), Long.toString(want));
    }

    static void due(String what, boolean got, boolean want) {
        due(what, Boolean.toString(got), Boolean.toString(want));
    }

    static void due(String what, String got, String want) {
        checks++;
        if (!got.equals(want)) {
            wrong++;
            System.out.println("[" + sentence + "] " + what + " answered " + got + ", due is " + want);
        }
    }

    static void finish(String test) {
        System.out.println(test + ": " + sentences + " sentences, " + wrong + " of " + checks + " checks are not as due");
        if (wrong != 0 || checks == 0) System.exit(1);
    }

    /** A loop with one transition whose guard has the rows given, three numbers each. */
    static CountedLoop loopWith(int... rows) {
        CountedLoop loop = new CountedLoop();
        addStep(loop, rows);
        return loop;
    }

    static int addStep(CountedLoop loop, int... rows) {
        int t = loop.transition();
        for (int i = 0; i < rows.length; i += 3) loop.guard(t, rows[i], rows[i + 1], rows[i + 2]);
        return t;
    }

    /** What holds of a function on a transition, a letter each for does not grow, falls, is bounded. */
    static String kinds(CountedLoop loop, int t, int u, int v) {
        StringBuilder letters = new StringBuilder();
        for (int what = 0; what <= 2; what++) letters.append(loop.holds(t, u, v, what) ? 'y' : 'n');
        return letters.toString();
    }

    static String function(CountedLoop loop, int level) {
        return loop.coefficient(level, 0) + "," + loop.coefficient(level, 1);
    }

    static String place(CountedLoop loop) {
        return loop.value(0) + "," + loop.value(1);
    }
}
