/** The sentences of the document's section "Terms" that name a boundary case, a test each. */
public final class TermsTest {
    private static final int LEAST = Checks.LEAST;
    private static final int MOST = Checks.MOST;

    public static void main(String[] args) {
        atMostSixTransitions();
        numberedInTheirOrder();
        noSuchTransition();
        atMostFourInequalities();
        rangeOfPAndQ();
        rangeOfR();
        rangeOfUpdateFactors();
        rangeOfUpdateConstants();
        fromTheOldXAndY();
        allPairsIfItHasNone();
        rationalPoints();
        emptyWhenThereAreNone();
        emptyInAnyOrder();
        emptyStaysEmpty();
        rangeOfUAndV();
        cornersOfUAndV();
        notBothZero();
        doesNotGrow();
        falls();
        bounded();
        boundedByTwo();
        emptyGuardHoldsAll();
        emptyGuardInTheLevels();
        doNotGrowOnAnyLeft();
        removesMost();
        leastSum();
        greatestU();
        greatestV();
        removesNone();
        thereIsNoFunction();
        endsWithSomeLeft();
        provenWithoutTransitions();
        floorIsRoundedUp();
        floorOfItsOwnTransitions();
        floorAtAFarCorner();
        floorWithEmptyGuards();
        floorWhenAllAreEmpty();
        atFirstZero();
        asTheyAreWhenAsked();
        constants();
        Checks.finish("TermsTest");
    }

    private static void due(String what, long got, long want) {
        Checks.due(what, got, want);
    }

    private static void due(String what, boolean got, boolean want) {
        Checks.due(what, got, want);
    }

    private static void due(String what, String got, String want) {
        Checks.due(what, got, want);
    }

    private static CountedLoop loopWith(int... rows) {
        return Checks.loopWith(rows);
    }

    private static void atMostSixTransitions() {
        Checks.sentence("at most six TRANSITIONS");
        CountedLoop loop = new CountedLoop();
        for (int t = 0; t < 5; t++) loop.transition();
        due("the sixth", loop.transition(), 5);
        due("the seventh", loop.transition(), -1);
        due("six are there", loop.transitions(), 6);
        loop.remove(2);
        due("five are there", loop.transitions(), 5);
        due("there is room for one", loop.transition(), 5);
        due("and for no other", loop.transition(), -1);
        due("six are there again", loop.transitions(), 6);
    }

    private static void numberedInTheirOrder() {
        Checks.sentence("numbered from 0 in their order");
        CountedLoop loop = new CountedLoop();
        for (int t = 0; t < 6; t++) {
            due("number", Checks.addStep(loop, 1, 0, t), t);
        }
        for (int t = 0; t < 6; t++) due("greatest of " + t, loop.greatest(t, 1, 0), t);
    }

    private static void noSuchTransition() {
        Checks.sentence("numbered from 0 (no such transition)");
        for (int count = 0; count <= 6; count++) {
            CountedLoop loop = new CountedLoop();
            for (int t = 0; t < 6; t++) Checks.addStep(loop, 0, 0, -1);
            for (int t = 6; t > count; t--) loop.remove(t - 1);
            int[] outside = {-1, count, count + 1, 6, 7, LEAST, MOST};
            for (int t : outside) {
                String name = t + " of " + count;
                due("guard " + name, loop.guard(t, 1, 0, 0), -1);
                due("update " + name, loop.update(t, 0, 1, 0, 0), false);
                due("remove " + name, loop.remove(t), false);
                due("greatest " + name, loop.greatest(t, 1, 0), LoopRanker.NO_BOUND);
                due("greatest of the zero sum " + name, loop.greatest(t, 0, 0), LoopRanker.NO_BOUND);
                due("holds " + name, loop.holds(t, 1, 0, 0), false);
                due("levelOf " + name, loop.levelOf(t), -1);
                due("fire " + name, loop.fire(t), false);
            }
            if (count > 0) lastTransition(loop, count - 1);
        }
    }

    private static void lastTransition(CountedLoop loop, int t) {
        due("holds " + t, loop.holds(t, 1, 0, 0), true);
        due("greatest " + t, loop.greatest(t, 1, 0), LoopRanker.EMPTY);
        due("levelOf " + t, loop.levelOf(t), 0);
        due("guard " + t, loop.guard(t, 0, 0, 0), 2);
        due("update " + t, loop.update(t, 0, 1, 0, 0), true);
        due("remove " + t, loop.remove(t), true);
    }

    private static void atMostFourInequalities() {
        Checks.sentence("A transition has a GUARD, at most four inequalities");
        CountedLoop loop = new CountedLoop();
        int[][] sides = {{1, 0, 3}, {-1, 0, 4}, {0, 1, 5}, {0, -1, 6}};
        for (int t = 0; t < 6; t++) {
            loop.transition();
            for (int i = 0; i < 4; i++) due("row " + i, loop.guard(t, sides[i][0], sides[i][1], sides[i][2]), i + 1);
            due("a fifth", loop.guard(t, 1, 0, -50), -1);
            due("a fifth that always holds", loop.guard(t, 0, 0, 99), -1);
            due("to the right", loop.greatest(t, 1, 0), 3);
            due("to the left", loop.greatest(t, -1, 0), 4);
            due("up", loop.greatest(t, 0, 1), 5);
            due("down", loop.greatest(t, 0, -1), 6);
        }
        int[][] inside = {{3, 5}, {-4, -6}};
        int[][] outside = {{4, 5}, {3, 6}, {-5, -6}, {-4, -7}};
        for (int[] p : inside) {
            loop.start(p[0], p[1]);
            due("all four hold at " + p[0] + "," + p[1], loop.fire(5), true);
        }
        for (int[] p : outside) {
            loop.start(p[0], p[1]);
            due("one does not hold at " + p[0] + "," + p[1], loop.fire(5), false);
        }
    }

    private static void rangeOfPAndQ() {
        Checks.sentence("|p| and |q| are at most 9");
        for (int p = -9; p <= 9; p++) {
            due("p = " + p, new Guarded(p, 0, 5).answer, 1);
            due("q = " + p, new Guarded(0, p, 5).answer, 1);
        }
        due("p = 9 as it is", new Guarded(9, 0, 99).loop.greatest(0, 1, 0), 11);
        due("p = -9 as it is", new Guarded(-9, 0, 99).loop.greatest(0, -1, 0), 11);
        due("q = 9 as it is", new Guarded(0, 9, 99).loop.greatest(0, 0, 1), 11);
        due("q = -9 as it is", new Guarded(0, -9, 99).loop.greatest(0, 0, -1), 11);
        int[] outside = {10, -10, LEAST, MOST, LEAST + 1, 265, -247, 1 << 16, 1 << 8};
        for (int p : outside) {
            due("p = " + p, new Guarded(p, 0, 5).answer, -1);
            due("q = " + p, new Guarded(0, p, 5).answer, -1);
            due("p = q = " + p, new Guarded(p, p, 5).answer, -1);
        }
    }

    private static void rangeOfR() {
        Checks.sentence("|r| at most 99");
        for (int r = -99; r <= 99; r++) {
            Guarded made = new Guarded(1, 0, r);
            due("r = " + r, made.answer, 1);
            due("r as it is", made.loop.greatest(0, 1, 0), r);
        }
        int[] outside = {100, -100, LEAST, MOST, LEAST + 1, 256, -256, 1 << 16};
        for (int r : outside) {
            due("r = " + r, new Guarded(1, 0, r).answer, -1);
            due("r = " + r + " with p and q both 0", new Guarded(0, 0, r).answer, -1);
        }
    }

    /** A loop with one transition and what its first guard call answered. */
    private static final class Guarded {
        final CountedLoop loop = new CountedLoop();
        final int answer;

        Guarded(int p, int q, int r) {
            loop.transition();
            answer = loop.guard(0, p, q, r);
        }
    }

    private static void rangeOfUpdateFactors() {
        Checks.sentence("|a|, |b|, |d|, |e| at most 3");
        for (int variable = 0; variable <= 1; variable++) {
            CountedLoop loop = loopWith();
            for (int a = -3; a <= 3; a++) {
                due("a = " + a, loop.update(0, variable, a, -a, 0), true);
                loop.start(100, 10);
                due("it fires", loop.fire(0), true);
                due("as it is", loop.value(variable), 90 * a);
            }
            int[] outside = {4, -4, LEAST, MOST, LEAST + 1, 257, -255};
            for (int a : outside) {
                due("a = " + a, loop.update(0, variable, a, 0, 0), false);
                due("b = " + a, loop.update(0, variable, 0, a, 0), false);
                due("a = b = " + a, loop.update(0, variable, a, a, 0), false);
            }
            loop.start(100, 10);
            loop.fire(0);
            due("the latest one that was taken stands", loop.value(variable), 270);
        }
    }

    private static void rangeOfUpdateConstants() {
        Checks.sentence("|c| and |f| at most 20");
        for (int variable = 0; variable <= 1; variable++) {
            CountedLoop loop = loopWith();
            for (int c = -20; c <= 20; c++) {
                due("c = " + c, loop.update(0, variable, 0, 0, c), true);
                due("it fires", loop.fire(0), true);
                due("as it is", loop.value(variable), c);
            }
            int[] outside = {21, -21, LEAST, MOST, LEAST + 1, 256 + 20};
            for (int c : outside) due("c = " + c, loop.update(0, variable, 0, 0, c), false);
            loop.fire(0);
            due("the latest one that was taken stands", loop.value(variable), 20);
        }
    }

    private static void fromTheOldXAndY() {
        Checks.sentence("both from the old x and y");
        CountedLoop loop = loopWith();
        loop.update(0, 0, 0, 1, 0);
        loop.update(0, 1, 1, 0, 0);
        loop.start(1000000, -1000000);
        due("they change places", loop.fire(0), true);
        due("x and y", Checks.place(loop), "-1000000,1000000");
        due("x + y stays", Checks.kinds(loop, 0, 1, 1), "ynn");
        due("x - y grows where x is less", Checks.kinds(loop, 0, 1, -1), "nnn");
    }

    private static void allPairsIfItHasNone() {
        Checks.sentence("(all pairs, if it has none)");
        CountedLoop loop = loopWith();
        for (int u = -60; u <= 60; u += 20) {
            for (int v = -60; v <= 60; v += 20) {
                due("greatest " + u + " " + v, loop.greatest(0, u, v), u == 0 && v == 0 ? 0 : LoopRanker.NO_BOUND);
            }
        }
        int[][] corners = {{-1000000, -1000000}, {-1000000, 1000000}, {1000000, -1000000}, {1000000, 1000000}};
        for (int[] c : corners) {
            loop.start(c[0], c[1]);
            due("it fires at " + c[0] + "," + c[1], loop.fire(0), true);
        }
        due("no function is bounded", loop.holds(0, 1, 0, 2) || loop.holds(0, -4, 4, 2), false);
        loop.guard(0, 0, 0, 0);
        due("0 <= 0 leaves all pairs", loop.greatest(0, 1, 0), LoopRanker.NO_BOUND);
        due("0 <= 0 leaves the zero sum", loop.greatest(0, 0, 0), 0);
    }

    private static void rationalPoints() {
        Checks.sentence("The POINTS of a guard are all pairs of rational numbers x, y for which all its inequalities hold");
        CountedLoop loop = loopWith(8, 0, 1, -9, 0, -1);
        due("1/9 .. 1/8 has no whole number, yet is not empty", loop.greatest(0, 1, 0), 0);
        due("60/8 rounded down", loop.greatest(0, 60, 0), 7);
        due("-60/9 rounded down", loop.greatest(0, -60, 0), -7);
        due("1/8 .. 1/9 is empty", loopWith(9, 0, 1, -8, 0, -1).greatest(0, 1, 0), LoopRanker.EMPTY);
        due("it fires at no whole number", loop.fire(0), false);
        CountedLoop corner = loopWith(9, 8, 1, -9, -8, -1, 8, -9, 1, -8, 9, -1);
        // The one point is x = 17/145, y = -1/145.
        due("one rational point", corner.greatest(0, 60, 0), 7);
        due("one rational point, y", corner.greatest(0, 0, 60), -1);
        due("one rational point, back", corner.greatest(0, 0, -60), 0);
    }

    private static void emptyWhenThereAreNone() {
        Checks.sentence("it is EMPTY when there are none");
        dueEmpty(false, 0, 0, 0);
        dueEmpty(true, 0, 0, -1);
        dueEmpty(true, 0, 0, -99);
        dueEmpty(false, 0, 0, 99);
        dueEmpty(false, 1, 0, 0, -1, 0, 0);
        dueEmpty(true, 1, 0, 0, -1, 0, -1);
        dueEmpty(false, 9, 9, 99, -1, -1, -11);
        dueEmpty(true, 9, 9, 98, -1, -1, -11);
        dueEmpty(true, 9, 9, 99, -1, -1, -12);
        dueEmpty(false, 9, -9, -99, -8, 8, 88);
        dueEmpty(true, 9, -9, -99, -8, 8, 87);
        dueEmpty(false, 1, 0, 0, 0, 1, 0, -1, -1, 0);
        dueEmpty(true, 1, 0, 0, 0, 1, 0, -1, -1, -1);
        // 9x + 8y <= 99 and -8x - 7y <= 99 meet at x = -1485, y = 1683, where y is greatest.
        dueEmpty(false, 9, 8, 99, -8, -7, 99, 0, -1, -99);
        dueEmpty(false, 9, 8, 99, -8, -7, 99, 1, 1, 99);
        dueEmpty(true, 9, 8, -99, -8, -7, -99, -1, -1, 99);
        dueEmpty(false, 9, 8, -99, -8, -7, -99, -1, 0, -99);
        // The last row passes the corner x = 1/9, y = 1/8, or misses it by a little.
        dueEmpty(false, 9, 0, 1, 0, 8, 1, -9, -8, -2);
        dueEmpty(true, 9, 0, 1, 0, 8, 1, -9, -8, -3);
        dueEmpty(false, 9, 0, 1, 0, 8, 1, 0, 0, 0, -9, 0, -1);
        dueEmpty(true, 9, 0, 1, 0, 8, 1, 0, 0, 0, -8, 0, -1);
    }

    private static void dueEmpty(boolean empty, int... rows) {
        String name = java.util.Arrays.toString(rows);
        CountedLoop loop = loopWith(rows);
        due("greatest " + name, loop.greatest(0, 0, 0), empty ? LoopRanker.EMPTY : 0);
        loop.update(0, 0, 3, 3, 20);
        loop.update(0, 1, 3, 2, 20);
        due("all hold " + name, allHold(loop), empty);
    }

    private static boolean allHold(CountedLoop loop) {
        for (int u = -4; u <= 4; u++) {
            for (int v = -4; v <= 4; v++) {
                if ((u != 0 || v != 0) && !Checks.kinds(loop, 0, u, v).equals("yyy")) return false;
            }
        }
        return true;
    }

    private static void emptyInAnyOrder() {
        Checks.sentence("it is EMPTY when there are none (whichever inequality comes last)");
        int[][] rows = {{2, 1, 3}, {-1, 3, 0}, {-1, -4, -4}, {1, -1, 9}};
        int[][] touching = {{2, 1, 3}, {-1, 3, 0}, {-1, -4, -3}, {1, -1, 9}};
        for (int i = 0; i < 24; i++) {
            CountedLoop loop = new CountedLoop();
            CountedLoop wider = new CountedLoop();
            loop.transition();
            wider.transition();
            for (int place : order(i)) {
                loop.guard(0, rows[place][0], rows[place][1], rows[place][2]);
                wider.guard(0, touching[place][0], touching[place][1], touching[place][2]);
            }
            due("order " + i, loop.greatest(0, 1, 0), LoopRanker.EMPTY);
            // It has one point, x = 9/7, y = 3/7.
            due("order " + i + ", a wider one", wider.greatest(0, 7, 0), 9);
        }
    }

    /** The i-th of the 24 orders of 0, 1, 2, 3. */
    private static int[] order(int i) {
        java.util.List<Integer> rest = new java.util.ArrayList<>(java.util.List.of(0, 1, 2, 3));
        return new int[] {rest.remove(i / 6), rest.remove(i / 2 % 3), rest.remove(i % 2), rest.remove(0)};
    }

    private static void emptyStaysEmpty() {
        Checks.sentence("it is EMPTY when there are none (and stays so)");
        CountedLoop loop = loopWith(0, 0, -1);
        due("second", loop.guard(0, 1, 0, 5), 2);
        due("empty", loop.greatest(0, 1, 0), LoopRanker.EMPTY);
        due("third", loop.guard(0, 0, 0, 99), 3);
        due("empty", loop.greatest(0, 1, 0), LoopRanker.EMPTY);
        due("fourth", loop.guard(0, -1, 0, 5), 4);
        due("empty", loop.greatest(0, 1, 0), LoopRanker.EMPTY);
        due("fifth", loop.guard(0, -1, 0, 5), -1);
        due("it never fires", loop.fire(0), false);
        loop.remove(0);
        loop.transition();
        due("a new transition is not empty", loop.greatest(0, 0, 0), 0);
    }

    private static void rangeOfUAndV() {
        Checks.sentence("A FUNCTION is u * x + v * y with whole numbers u and v, each -4 .. 4");
        // Only multiples of u * x + v * y are bounded.
        for (int u = -9; u <= 9; u++) {
            for (int v = -9; v <= 9; v++) {
                if (u == 0 || v == 0) continue;
                CountedLoop loop = loopWith(-u, -v, 0);
                loop.update(0, 0, 1, 0, u > 0 ? -1 : 1);
                int divisor = commonDivisor(Math.abs(u), Math.abs(v));
                boolean inRange = Math.abs(u / divisor) <= 4 && Math.abs(v / divisor) <= 4;
                due("levels for " + u + "," + v, loop.levels(), inRange ? 1 : 0);
                due("function for " + u + "," + v, Checks.function(loop, 0),
                        inRange ? u / divisor + "," + v / divisor : "0,0");
            }
        }
    }

    private static void cornersOfUAndV() {
        Checks.sentence("each -4 .. 4 (both at their ends)");
        int[][] signs = {{1, 1}, {1, -1}, {-1, 1}, {-1, -1}};
        for (int[] s : signs) {
            for (int part = 3; part <= 5; part++) {
                // On the guard s0 * x + s1 * y is 1 / part, and the update takes that off it; only its multiples
                // are bounded, and it falls by 1 when taken part times.
                CountedLoop loop = loopWith(part * s[0], part * s[1], 1, -part * s[0], -part * s[1], -1);
                loop.update(0, 0, 0, -s[0] * s[1], 0);
                boolean inRange = part <= 4;
                due("a fall by 1/" + part, loop.levels(), inRange ? 1 : 0);
                due("a fall by 1/" + part + ": function", Checks.function(loop, 0),
                        inRange ? part * s[0] + "," + part * s[1] : "0,0");
            }
        }
    }

    private static int commonDivisor(int a, int b) {
        return b == 0 ? a : commonDivisor(b, a % b);
    }

    private static void notBothZero() {
        Checks.sentence("not both 0");
        CountedLoop loop = loopWith(1, 0, 5, -1, 0, 5, 0, 1, 5, 0, -1, 5);
        due("on an ordinary guard", Checks.kinds(loop, 0, 0, 0), "nnn");
        due("one 0 is a function", Checks.kinds(loop, 0, 0, 1), "yny");
        due("the other 0 is one too", Checks.kinds(loop, 0, 1, 0), "yny");
        CountedLoop empty = loopWith(0, 0, -1);
        due("on an empty guard", Checks.kinds(empty, 0, 0, 0), "nnn");
        due("no level has it", Checks.function(empty, 0), "1,0");
    }

    private static void doesNotGrow() {
        Checks.sentence("does NOT GROW when at every point of the guard its value after the update is at most its value before");
        int[] constants = {-20, -11, -1, 0, 11, 20};
        for (int c : constants) {
            for (int r = -99; r <= 99; r++) {
                // With 9x <= r the change x + c is r/9 + c at most.
                CountedLoop loop = loopWith(9, 0, r);
                loop.update(0, 0, 2, 0, c);
                due("9x <= " + r + ", x becomes 2x + " + c, loop.holds(0, 1, 0, 0), r + 9 * c <= 0);
            }
        }
        CountedLoop still = loopWith();
        due("a change of 0", still.holds(0, 4, -4, 0), true);
        still.update(0, 1, 0, 1, 1);
        due("a change of 1", still.holds(0, 0, 1, 0), false);
        due("a change of -1", still.holds(0, 0, -1, 0), true);
        still.update(0, 1, 0, 2, -20);
        due("a change without a greatest", still.holds(0, 0, 1, 0), false);
    }

    private static void falls() {
        Checks.sentence("FALLS when at every point of the guard its value after the update is at most its value before less 1");
        int[] constants = {-20, -12, -11, -1, 0, 10, 20};
        for (int c : constants) {
            for (int r = -99; r <= 99; r++) {
                CountedLoop loop = loopWith(0, 9, r);
                loop.update(0, 1, 0, 2, c);
                due("9y <= " + r + ", y becomes 2y + " + c, loop.holds(0, 0, 1, 1), r + 9 * c <= -9);
            }
        }
        CountedLoop still = loopWith();
        due("a change of 0", still.holds(0, 1, 0, 1), false);
        still.update(0, 0, 1, 0, -1);
        due("a change of -1", still.holds(0, 1, 0, 1), true);
        due("a change of 1", still.holds(0, -1, 0, 1), false);
        still.update(0, 1, 0, 1, 1);
        due("changes of -1 and 1", still.holds(0, 1, 1, 1), false);
        due("changes of -2 and 1", still.holds(0, 2, 1, 1), true);
        // 8x <= 1 and x becomes 2x - 1: the change is at most -7/8.
        CountedLoop nearly = loopWith(8, 0, 1);
        nearly.update(0, 0, 2, 0, -1);
        due("by 7/8 only", Checks.kinds(nearly, 0, 1, 0), "ynn");
        due("twice that", Checks.kinds(nearly, 0, 2, 0), "yyn");
    }

    private static void bounded() {
        Checks.sentence("is BOUNDED when there is a number below which its value is at no point of the guard");
        CountedLoop loop = loopWith(-1, 0, 99);
        due("x >= -99: x", loop.holds(0, 1, 0, 2), true);
        due("x >= -99: 4x", loop.holds(0, 4, 0, 2), true);
        due("x >= -99: -x", loop.holds(0, -1, 0, 2), false);
        due("x >= -99: y", loop.holds(0, 0, 1, 2), false);
        due("x >= -99: x + y", loop.holds(0, 1, 1, 2), false);
        loop.guard(0, 1, 0, 99);
        due("-99 <= x <= 99: -x", loop.holds(0, -4, 0, 2), true);
        due("-99 <= x <= 99: 4x + y", loop.holds(0, 4, 1, 2), false);
        loop.guard(0, 0, 0, 5);
        due("p and q both 0 bound nothing", loop.holds(0, 0, 1, 2), false);
    }

    private static void boundedByTwo() {
        Checks.sentence("is BOUNDED (by two inequalities together, up to the edge of what they bound)");
        CountedLoop quarter = loopWith(-1, 0, 0, 0, -1, 0);
        CountedLoop slanted = loopWith(-3, -1, 0, -1, -3, 0);
        for (int u = -4; u <= 4; u++) {
            for (int v = -4; v <= 4; v++) {
                if (u == 0 && v == 0) continue;
                due("x, y >= 0: " + u + "," + v, quarter.holds(0, u, v, 2), u >= 0 && v >= 0);
                boolean between = 3 * u >= v && 3 * v >= u;
                due("3x + y, x + 3y >= 0: " + u + "," + v, slanted.holds(0, u, v, 2), between);
            }
        }
    }

    private static void emptyGuardHoldsAll() {
        Checks.sentence("(With an empty guard all three hold.)");
        CountedLoop loop = loopWith(1, 1, -1, -1, -1, 0);
        loop.update(0, 0, 3, 3, 20);
        loop.update(0, 1, 3, 3, 20);
        due("for every function", allHold(loop), true);
        due("not for a fourth", loop.holds(0, 1, 0, 3), false);
        due("not outside -4 .. 4", loop.holds(0, 5, 0, 0) || loop.holds(0, 0, -5, 2), false);
    }

    private static void emptyGuardInTheLevels() {
        Checks.sentence("(With an empty guard all three hold.) In the levels");
        CountedLoop loop = loopWith(0, 0, -1);
        loop.update(0, 0, 3, 3, 20);
        due("an empty guard alone: levels", loop.levels(), 1);
        due("an empty guard alone: function", Checks.function(loop, 0), "1,0");
        due("an empty guard alone: proven", loop.proven(), true);
        Checks.addStep(loop, 0, 1, 3);
        loop.update(1, 1, 0, 1, 1);
        due("it goes with any other", loop.levels(), 1);
        due("by that one's function", Checks.function(loop, 0), "0,-1");
        due("both of level 0", loop.levelOf(0) + loop.levelOf(1), 0);
        loop.transition();
        loop.update(2, 0, 2, 0, 0);
        loop.update(2, 1, 0, 2, 0);
        due("when every function grows on another, it stays", loop.levels(), 0);
        due("it is left", loop.levelOf(0), -1);
        loop.remove(2);
        loop.transition();
        due("when another is left, it goes all the same", loop.levelOf(0), 0);
        due("not that other", loop.levelOf(2), -1);
        due("not proven", loop.proven(), false);
    }

    private static void doNotGrowOnAnyLeft() {
        Checks.sentence("look at the functions that do not grow on any transition that is left");
        CountedLoop loop = loopWith(-1, 0, 0);
        loop.update(0, 0, 1, 0, -1);
        loop.transition();
        loop.update(1, 0, 1, 0, 1);
        due("x grows on the other", loop.levels(), 0);
        loop.guard(1, 0, -1, 0);
        loop.update(1, 1, 0, 1, -1);
        due("y goes first, then x, that grew before", loop.levels(), 2);
        due("y", Checks.function(loop, 0), "0,1");
        due("x", Checks.function(loop, 1), "1,0");
        due("proven", loop.proven(), true);
        due("the first is of level 1", loop.levelOf(0), 1);
        due("the second is of level 0", loop.levelOf(1), 0);
    }

    private static void removesMost() {
        Checks.sentence("The function of the level is the one that removes most");
        CountedLoop loop = new CountedLoop();
        Checks.addStep(loop, -1, 0, 0, 0, -1, 0);
        loop.update(0, 0, 1, 0, -1);
        loop.update(0, 1, 0, 1, -1);
        due("of one alone x", Checks.function(loop, 0), "1,0");
        Checks.addStep(loop, -4, -3, 0);
        loop.update(1, 0, 1, 0, -1);
        due("4x + 3y removes both", Checks.function(loop, 0), "4,3");
        due("one level", loop.levels(), 1);
        loop.guard(1, -1, 0, 0);
        due("x removes as many", Checks.function(loop, 0), "1,0");
    }

    private static void leastSum() {
        Checks.sentence("of several the one with the least |u| + |v|");
        CountedLoop loop = loopWith(-1, -1, 0, -1, -3, 0);
        loop.update(0, 0, 1, 0, -1);
        due("x + y before 2x + y, 3x + 4y and the multiples", Checks.function(loop, 0), "1,1");
        CountedLoop negative = loopWith(1, 1, 0, 1, 3, 0);
        negative.update(0, 0, 1, 0, 1);
        due("-x - y although its u is less", Checks.function(negative, 0), "-1,-1");
        CountedLoop slow = loopWith(-2, 0, -1, 2, 0, 1);
        slow.update(0, 0, 0, 0, 0);
        due("2x, because x falls by 1/2", Checks.function(slow, 0), "2,0");
    }

    private static void greatestU() {
        Checks.sentence("of these the one with the greatest u");
        int[][] signs = {{1, 1}, {1, -1}, {-1, 1}, {-1, -1}};
        String[] functions = {"1,0", "1,0", "0,1", "0,-1"};
        for (int i = 0; i < 4; i++) {
            CountedLoop loop = loopWith(-signs[i][0], 0, 0, 0, -signs[i][1], 0);
            loop.update(0, 0, 1, 0, -signs[i][0]);
            loop.update(0, 1, 0, 1, -signs[i][1]);
            due("signs " + signs[i][0] + "," + signs[i][1], Checks.function(loop, 0), functions[i]);
        }
    }

    private static void greatestV() {
        Checks.sentence("of these the one with the greatest v");
        for (int first = 0; first <= 1; first++) {
            CountedLoop loop = new CountedLoop();
            Checks.addStep(loop, -3, first == 0 ? 4 : -4, 0);
            loop.update(0, 0, 1, 0, -1);
            Checks.addStep(loop, -3, first == 0 ? -4 : 4, 0);
            loop.update(1, 0, 1, 0, -1);
            due("3x + 4y", Checks.function(loop, 0), "3,4");
            due("then 3x - 4y", Checks.function(loop, 1), "3,-4");
            due("whichever comes first", loop.levelOf(0), 1 - first);
        }
    }

    private static void removesNone() {
        Checks.sentence("If it removes none (or there is none), there is no such level and the proof ends");
        CountedLoop still = loopWith(1, 0, 5, -1, 0, 5, 0, 1, 5, 0, -1, 5);
        dueUnproven("nothing grows, nothing falls", still);
        CountedLoop unbounded = loopWith();
        unbounded.update(0, 0, 1, 0, -1);
        dueUnproven("falls without a bound", unbounded);
        CountedLoop other = loopWith(1, 0, 0);
        other.update(0, 0, 1, 0, -1);
        dueUnproven("falls here, bounded there", other);
    }

    private static void thereIsNoFunction() {
        Checks.sentence("(or there is none)");
        CountedLoop loop = loopWith();
        loop.update(0, 0, 2, 0, 0);
        loop.update(0, 1, 0, 2, 0);
        Checks.addStep(loop, -1, 0, 0);
        loop.update(1, 0, 1, 0, -1);
        dueUnproven("every function grows", loop);
    }

    private static void dueUnproven(String what, CountedLoop loop) {
        due(what + ": levels", loop.levels(), 0);
        due(what + ": proven", loop.proven(), false);
        due(what + ": levelOf", loop.levelOf(0), -1);
        due(what + ": function", Checks.function(loop, 0), "0,0");
        due(what + ": floor", loop.floor(0), LoopRanker.NO_BOUND);
        due(what + ": rank", loop.rank(0), LoopRanker.NO_BOUND);
        due(what + ": budget", loop.budget(), -1);
    }

    private static void endsWithSomeLeft() {
        Checks.sentence("The loop is PROVEN when none is left in the end");
        CountedLoop loop = new CountedLoop();
        for (int t = 0; t < 6; t++) {
            Checks.addStep(loop, -1, 0, 0);
            loop.update(t, 0, 1, 0, -1);
        }
        due("none is left", loop.proven(), true);
        for (int t = 0; t < 6; t++) {
            loop.update(t, 0, 1, 0, 0);
            due("number " + t + " is left", loop.proven(), false);
            due("of no level", loop.levelOf(t), -1);
            due("the others are of one", loop.levelOf((t + 1) % 6), 0);
            due("one level all the same", loop.levels(), 1);
            loop.update(t, 0, 1, 0, -1);
        }
        due("none is left again", loop.proven(), true);
    }

    private static void provenWithoutTransitions() {
        Checks.sentence("(so when there are no transitions)");
        CountedLoop loop = new CountedLoop();
        due("a new object", loop.proven(), true);
        due("without levels", loop.levels(), 0);
        loop.transition();
        due("with one", loop.proven(), false);
        loop.remove(0);
        due("with none again", loop.proven(), true);
        due("without levels again", loop.levels(), 0);
        due("no floor", loop.floor(0), LoopRanker.NO_BOUND);
        due("no function", Checks.function(loop, 0), "0,0");
    }

    private static void floorIsRoundedUp() {
        Checks.sentence("The FLOOR of a level is the least whole number that is at least as great as the least value of its function");
        for (int r = -99; r <= 99; r++) {
            CountedLoop loop = loopWith(-9, 0, -r);
            loop.update(0, 0, 1, 0, -1);
            due("9x >= " + r, loop.floor(0), Math.floorDiv(r + 8, 9));
            CountedLoop mirrored = loopWith(0, 9, -r);
            mirrored.update(0, 1, 0, 1, 1);
            due("-9y >= " + r, mirrored.floor(0), Math.floorDiv(r + 8, 9));
        }
    }

    private static void floorOfItsOwnTransitions() {
        Checks.sentence("at the points of the guards of its transitions");
        CountedLoop loop = loopWith(-1, 0, -20);
        loop.update(0, 0, 1, 0, -1);
        due("one", loop.floor(0), 20);
        Checks.addStep(loop, -1, 0, -10);
        loop.update(1, 0, 1, 0, -1);
        due("the least of two", loop.floor(0), 10);
        Checks.addStep(loop, -1, 0, 50, 0, -1, -7);
        loop.update(2, 1, 0, 1, -1);
        due("two levels", loop.levels(), 2);
        due("one of another level does not count", loop.floor(0), 10);
        due("the other level has its own", loop.floor(1), 7);
        Checks.addStep(loop, -1, 0, 60);
        due("one that is left does not count", loop.floor(0), 10);
        due("it is left", loop.levelOf(3), -1);
        Checks.addStep(loop, -3, 0, 1);
        loop.update(4, 0, 1, 0, -1);
        due("the least of three, -1/3 rounded up", loop.floor(0), 0);
    }

    private static void floorAtAFarCorner() {
        Checks.sentence("the least value of its function (at the farthest corner)");
        // 9x + 8y <= 99 and -8x - 7y <= 99 meet at x = -1485, y = 1683.
        CountedLoop loop = loopWith(9, 8, 99, -8, -7, 99);
        loop.update(0, 0, 1, 0, -1);
        due("x", Checks.function(loop, 0), "1,0");
        due("x is -1485 or more", loop.floor(0), -1485);
        loop.update(0, 0, 1, 0, 0);
        loop.update(0, 1, 0, 1, 1);
        due("-y", Checks.function(loop, 0), "0,-1");
        due("-y is -1683 or more", loop.floor(0), -1683);
        CountedLoop above = loopWith(9, 8, -99, -8, -7, -99);
        above.update(0, 0, 1, 0, -1);
        due("x is 1485 or more", above.floor(0), 1485);
    }

    private static void floorWithEmptyGuards() {
        Checks.sentence("(of those whose guard is not empty");
        int[] least = {5, -5};
        for (int value : least) {
            for (int empty = 0; empty <= 1; empty++) {
                CountedLoop loop = new CountedLoop();
                for (int t = 0; t <= 1; t++) {
                    Checks.addStep(loop, -1, 0, -value);
                    loop.update(t, 0, 1, 0, -1);
                }
                loop.guard(empty, -1, 0, 90);
                loop.guard(empty, 0, 0, -1);
                due("least " + value + ", number " + empty + " is empty", loop.floor(0), value);
                due("both of level 0", loop.levelOf(0) + loop.levelOf(1), 0);
            }
        }
    }

    private static void floorWhenAllAreEmpty() {
        Checks.sentence("0 when all are empty)");
        for (int count = 1; count <= 6; count++) {
            CountedLoop loop = new CountedLoop();
            for (int t = 0; t < count; t++) Checks.addStep(loop, -1, 0, -30, 1, 0, 29);
            due("floor of " + count, loop.floor(0), 0);
            due("one level for " + count, loop.levels(), 1);
            due("no other floor", loop.floor(1), LoopRanker.NO_BOUND);
        }
    }

    private static void atFirstZero() {
        Checks.sentence("x and y have values, at first 0 and 0");
        CountedLoop loop = new CountedLoop();
        due("at first", Checks.place(loop), "0,0");
        Checks.addStep(loop, 1, 1, 0, -1, -1, 0);
        loop.update(0, 0, 1, 0, 1);
        due("a guard that holds at 0,0", loop.fire(0), true);
        due("the first step", Checks.place(loop), "1,0");
        Checks.addStep(loop, 1, 1, -1);
        due("no start was needed", loop.fired(), 1);
        due("a guard that does not hold", loop.fire(1), false);
    }

    private static void asTheyAreWhenAsked() {
        Checks.sentence("The proof is about the transitions as they are when a question about it is asked.");
        CountedLoop asked = new CountedLoop();
        String[] proofs = new String[CHANGES];
        for (int i = 0; i < CHANGES; i++) {
            change(asked, i);
            proofs[i] = proof(asked);
        }
        for (int last = 0; last < CHANGES; last++) {
            CountedLoop late = new CountedLoop();
            for (int i = 0; i <= last; i++) change(late, i);
            due("asked after change " + last + " alone", proof(late), proofs[last]);
        }
        due("a new transition", proofs[0], "0 levels, false, floor 4611686018427387904, of [-1, -1, -1], budget -1");
        due("an update", proofs[1], "0 levels, false, floor 4611686018427387904, of [-1, -1, -1], budget -1");
        due("a guard", proofs[2], "1 levels, true, floor -3, of [0, -1, -1], budget 4");
        due("another row", proofs[3], "1 levels, true, floor 2, of [0, -1, -1], budget 0");
        due("a second transition", proofs[4], "1 levels, false, floor 2, of [0, -1, -1], budget -1");
        due("its guard", proofs[5], "1 levels, false, floor 2, of [0, -1, -1], budget -1");
        due("its update", proofs[6], "2 levels, true, floor 2, of [0, 1, -1], budget -1");
        due("the first is removed", proofs[7], "1 levels, true, floor -1, of [0, -1, -1], budget 2");
        due("a row makes it empty", proofs[8], "1 levels, true, floor 0, of [0, -1, -1], budget 1");
        due("it is removed", proofs[9], "0 levels, true, floor 4611686018427387904, of [-1, -1, -1], budget -1");
        due("a new one", proofs[10], "0 levels, false, floor 4611686018427387904, of [-1, -1, -1], budget -1");
        due("its guard", proofs[11], "0 levels, false, floor 4611686018427387904, of [-1, -1, -1], budget -1");
        due("an update that falls", proofs[12], "1 levels, true, floor -7, of [0, -1, -1], budget 8");
        due("one that grows", proofs[13], "0 levels, false, floor 4611686018427387904, of [-1, -1, -1], budget -1");
        due("one that stays", proofs[14], "0 levels, false, floor 4611686018427387904, of [-1, -1, -1], budget -1");
        due("one that falls again", proofs[15], "1 levels, true, floor -7, of [0, -1, -1], budget 8");
    }

    private static final int CHANGES = 16;

    private static void change(CountedLoop loop, int i) {
        switch (i) {
            case 0 -> loop.transition();
            case 1 -> loop.update(0, 0, 1, 0, -1);
            case 2 -> loop.guard(0, -1, 0, 3);
            case 3 -> loop.guard(0, -1, 0, -2);
            case 4 -> loop.transition();
            case 5 -> loop.guard(1, 0, -1, 1);
            case 6 -> loop.update(1, 1, 0, 1, -1);
            case 7 -> loop.remove(0);
            case 8 -> loop.guard(0, 0, 0, -1);
            case 9 -> loop.remove(0);
            case 10 -> loop.transition();
            case 11 -> loop.guard(0, -1, 0, 7);
            case 13 -> loop.update(0, 0, 1, 0, 1);
            case 14 -> loop.update(0, 0, 1, 0, 0);
            default -> loop.update(0, 0, 1, 0, -2);
        }
    }

    private static String proof(CountedLoop loop) {
        return loop.levels() + " levels, " + loop.proven() + ", floor " + loop.floor(0) + ", of [" + loop.levelOf(0)
                + ", " + loop.levelOf(1) + ", " + loop.levelOf(2) + "], budget " + loop.budget();
    }

    private static void constants() {
        Checks.sentence("The constants");
        due("NONE", LoopRanker.NONE, -1);
        due("NO_BOUND", LoopRanker.NO_BOUND, 4611686018427387904L);
        due("EMPTY", LoopRanker.EMPTY, -4611686018427387904L);
    }
}
