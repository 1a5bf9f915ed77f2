/** Each promise of the document: ordinary inputs, the edges that it names, and wrong inputs. */
public final class PromiseTest {
    private static final int LEAST = Integer.MIN_VALUE;
    private static final int MOST = Integer.MAX_VALUE;
    private static int wrong = 0;
    private static int checks = 0;

    public static void main(String[] args) {
        newObject();
        transition();
        guard();
        update();
        remove();
        greatest();
        greatestOfThinGuards();
        holds();
        holdsAtRationalPoints();
        holdsWithEmptyGuard();
        levels();
        levelsPreferMostRemoved();
        levelsPreferLeastSum();
        levelsPreferGreatestU();
        levelsPreferGreatestV();
        unfinishedProof();
        sixLevels();
        proofFollowsChanges();
        questionsWithoutLevel();
        floor();
        start();
        fire();
        fireAtTheEdge();
        rank();
        budget();
        System.out.println("PromiseTest: " + wrong + " of " + checks + " checks are not as due");
        if (wrong != 0) System.exit(1);
    }

    private static void due(String what, long got, long want) {
        checks++;
        if (got != want) {
            wrong++;
            System.out.println(what + " answered " + got + ", due is " + want);
        }
    }

    private static void due(String what, boolean got, boolean want) {
        due(what, got ? 1 : 0, want ? 1 : 0);
    }

    /** A loop with one transition whose guard has the rows given, three numbers each. */
    private static LoopRanker loopWith(int... rows) {
        LoopRanker loop = new LoopRanker();
        addStep(loop, rows);
        return loop;
    }

    private static int addStep(LoopRanker loop, int... rows) {
        int t = loop.transition();
        for (int i = 0; i < rows.length; i += 3) loop.guard(t, rows[i], rows[i + 1], rows[i + 2]);
        return t;
    }

    private static void dueLevel(String what, LoopRanker loop, int level, int u, int v) {
        due(what + ": u of level " + level, loop.coefficient(level, 0), u);
        due(what + ": v of level " + level, loop.coefficient(level, 1), v);
    }

    private static void newObject() {
        LoopRanker loop = new LoopRanker();
        due("1: transitions", loop.transitions(), 0);
        due("1: x", loop.value(0), 0);
        due("1: y", loop.value(1), 0);
        due("1: fired", loop.fired(), 0);
        due("1: levels", loop.levels(), 0);
        due("1: proven", loop.proven(), true);
        due("1: budget", loop.budget(), LoopRanker.NONE);
        due("1: two objects share nothing", loop.transition() + new LoopRanker().transitions(), 0);
    }

    private static void transition() {
        LoopRanker loop = new LoopRanker();
        for (int t = 0; t < 6; t++) {
            due("2: transition", loop.transition(), t);
            due("6: transitions", loop.transitions(), t + 1);
        }
        due("2: a seventh", loop.transition(), LoopRanker.NONE);
        due("6: still six", loop.transitions(), 6);
        loop.start(-17, 23);
        due("2: without inequalities it can be fired", loop.fire(5), true);
        due("2: leaves x", loop.value(0), -17);
        due("2: leaves y", loop.value(1), 23);
        due("2: it has no inequality yet", loop.guard(5, 1, 1, 1), 1);

        for (int i = 0; i < 4; i++) loop.guard(5, 1, 0, -50);
        loop.update(5, 0, 3, 3, 20);
        loop.update(5, 1, 3, 3, 20);
        loop.remove(5);
        due("2: a place is used again", loop.transition(), 5);
        due("2: nothing of the old guard is left", loop.greatest(5, 1, 0), LoopRanker.NO_BOUND);
        due("2: nothing of the old update is left", loop.holds(5, 1, 0, 0) && loop.holds(5, 0, 1, 0), true);
        due("2: fires freely again", loop.fire(5), true);
        due("2: leaves x again", loop.value(0), -17);
        due("2: has room for inequalities again", loop.guard(5, 0, 0, 0), 1);
    }

    private static void guard() {
        LoopRanker loop = new LoopRanker();
        due("3: no transition", loop.guard(0, 1, 1, 1), LoopRanker.NONE);
        loop.transition();
        due("3: first", loop.guard(0, 9, -9, 99), 1);
        int[][] refused = {{0, 10, 0, 0}, {0, -10, 0, 0}, {0, 0, 10, 0}, {0, 0, -10, 0}, {0, 0, 0, 100},
            {0, 0, 0, -100}, {0, LEAST, 0, 0}, {0, 0, LEAST, 0}, {0, 0, 0, LEAST}, {0, MOST, 0, 0},
            {1, 0, 0, 0}, {-1, 0, 0, 0}, {LEAST, 0, 0, 0}, {MOST, 0, 0, 0}};
        for (int[] g : refused) {
            due("3: refused " + java.util.Arrays.toString(g), loop.guard(g[0], g[1], g[2], g[3]), LoopRanker.NONE);
        }
        due("3: second, the refused ones do not count", loop.guard(0, -9, 9, 0), 2);
        due("3: both sides stand now", loop.greatest(0, 1, -1), 11);
        due("3: third, p and q both 0", loop.guard(0, 0, 0, 0), 3);
        due("3: a row 0 <= 0 changes nothing", loop.greatest(0, 1, -1), 11);
        due("3: fourth", loop.guard(0, 1, 0, -99), 4);
        due("3: a fifth", loop.guard(0, 0, 0, -1), LoopRanker.NONE);
        due("3: the fifth is not there", loop.greatest(0, 1, 0), -99);
        loop.transition();
        due("3: another transition has its own", loop.guard(1, 0, 1, 5), 1);
        due("3: and the first is as it was", loop.greatest(0, 0, 1), -99);
    }

    private static void update() {
        LoopRanker loop = new LoopRanker();
        due("4: no transition", loop.update(0, 0, 1, 0, 0), false);
        loop.transition();
        due("4: x", loop.update(0, 0, 3, -3, 20), true);
        due("4: y", loop.update(0, 1, -3, 3, -20), true);
        int[][] refused = {{0, 0, 4, 0, 0}, {0, 0, -4, 0, 0}, {0, 0, 0, 4, 0}, {0, 0, 0, -4, 0}, {0, 0, 0, 0, 21},
            {0, 0, 0, 0, -21}, {0, 1, LEAST, 0, 0}, {0, 1, 0, LEAST, 0}, {0, 1, 0, 0, LEAST}, {0, 2, 0, 0, 0},
            {0, -1, 0, 0, 0}, {0, LEAST, 0, 0, 0}, {1, 0, 0, 0, 0}, {-1, 0, 0, 0, 0}, {MOST, 0, 0, 0, 0}};
        for (int[] c : refused) {
            due("4: refused " + java.util.Arrays.toString(c), loop.update(c[0], c[1], c[2], c[3], c[4]), false);
        }
        loop.start(5, 2);
        due("4: fires", loop.fire(0), true);
        due("4: x from the old x and y", loop.value(0), 3 * 5 - 3 * 2 + 20);
        due("4: y from the old x and y", loop.value(1), -3 * 5 + 3 * 2 - 20);
        due("4: it can be changed again", loop.update(0, 0, 0, 1, 0), true);
        due("4: fires again", loop.fire(0), true);
        due("4: x becomes the old y", loop.value(0), -29);
    }

    private static void remove() {
        LoopRanker loop = new LoopRanker();
        due("5: none there", loop.remove(0), false);
        for (int t = 0; t < 4; t++) {
            loop.transition();
            loop.guard(t, 1, 0, 10 * t);
            loop.update(t, 0, 1, 0, -t);
        }
        due("5: behind the end", loop.remove(4), false);
        due("5: before the beginning", loop.remove(-1), false);
        due("5: far out", loop.remove(LEAST) || loop.remove(MOST), false);
        due("6: all four are there", loop.transitions(), 4);
        loop.start(3, 4);
        due("5: the second", loop.remove(1), true);
        due("6: three are there", loop.transitions(), 3);
        due("5: the one before stays", loop.greatest(0, 1, 0), 0);
        due("5: the next one moved up", loop.greatest(1, 1, 0), 20);
        due("5: the last one moved up", loop.greatest(2, 1, 0), 30);
        due("5: nothing is behind it", loop.greatest(3, 1, 0), LoopRanker.NO_BOUND);
        due("5: nothing behind it takes a row", loop.guard(3, 1, 0, 0), LoopRanker.NONE);
        due("5: nothing behind it fires", loop.fire(3), false);
        due("5: the updates moved too", loop.fire(2), true);
        due("5: by 3", loop.value(0), 0);
        due("5: the last", loop.remove(2), true);
        due("5: the first", loop.remove(0), true);
        due("5: the one that is left", loop.greatest(0, 1, 0), 20);
        due("5: the run stays as it is", loop.value(0) * 100 + loop.value(1) * 10 + loop.fired(), 41);
        due("5: that one too", loop.remove(0), true);
        due("6: none is there", loop.transitions(), 0);
    }

    private static void greatest() {
        LoopRanker loop = loopWith(2, 3, 12, -1, 0, 0, 0, -1, 0);
        due("7: at a corner", loop.greatest(0, 1, 1), 6);
        due("7: along an edge", loop.greatest(0, 4, 6), 24);
        due("7: at the other corner", loop.greatest(0, 1, 5), 20);
        due("7: the zero sum", loop.greatest(0, 0, 0), 0);
        due("7: 60 is in range", loop.greatest(0, 60, -60), 360);
        due("7: -60 is in range", loop.greatest(0, -60, 60), 240);
        int[][] refused = {{61, 0}, {-61, 0}, {0, 61}, {0, -61}, {LEAST, 0}, {0, LEAST}, {MOST, MOST}};
        for (int[] c : refused) {
            due("7: refused " + c[0] + " " + c[1], loop.greatest(0, c[0], c[1]), LoopRanker.NO_BOUND);
        }
        due("7: no such transition", loop.greatest(1, 1, 1), LoopRanker.NO_BOUND);
        due("7: no such transition before", loop.greatest(-1, 1, 1), LoopRanker.NO_BOUND);

        loop = loopWith();
        due("7: all pairs", loop.greatest(0, 1, 0), LoopRanker.NO_BOUND);
        due("7: all pairs, the zero sum", loop.greatest(0, 0, 0), 0);

        loop = loopWith(3, 0, 10, -3, 0, 10);
        due("7: rounded down", loop.greatest(0, 1, 0), 3);
        due("7: rounded down once only", loop.greatest(0, 2, 0), 6);
        loop = loopWith(3, 0, -10);
        due("7: below 0 rounded down too", loop.greatest(0, 1, 0), -4);
        due("7: the other way it has none", loop.greatest(0, -1, 0), LoopRanker.NO_BOUND);

        loop = loopWith(9, 8, 99, -9, -8, 99, 8, 9, 99, -8, -9, 99);
        due("7: the widest corners", loop.greatest(0, 60, -60), 60 * 198);
        // 9x + 8y <= 99 and -8x - 7y <= 99 meet at x = -1485, y = 1683.
        loop = loopWith(9, 8, 99, -8, -7, 99, 0, 0, 99);
        due("7: a far corner", loop.greatest(0, 60, 60), 60 * (1683 - 1485));
        due("7: a far corner, once", loop.greatest(0, 1, 1), 1683 - 1485);
        due("7: a far corner, y", loop.greatest(0, 0, 1), 1683);
        due("7: from a far corner on", loop.greatest(0, 1, 0), LoopRanker.NO_BOUND);
    }

    private static void greatestOfThinGuards() {
        LoopRanker line = loopWith(1, 1, 4, -2, -2, -8);
        due("7: a line, across", line.greatest(0, 3, 3), 12);
        due("7: a line, along", line.greatest(0, 1, -1), LoopRanker.NO_BOUND);
        LoopRanker point = loopWith(1, 1, 4, -2, -2, -8, 1, -1, 1, -1, 1, -1);
        due("7: a point", point.greatest(0, 2, 0), 5);
        due("7: a point, rounded down", point.greatest(0, -1, 0), -3);
        LoopRanker strip = loopWith(2, 0, 7, -2, 0, -5);
        due("7: a strip that holds one whole number", strip.greatest(0, 1, 0), 3);
        LoopRanker between = loopWith(3, 0, 2, -3, 0, -1);
        due("7: rational points alone are points", between.greatest(0, 1, 0), 0);
        due("7: rational points alone, below", between.greatest(0, -1, 0), -1);
        due("7: parallel rows that miss", loopWith(3, 0, 10, -6, 0, -21).greatest(0, 0, 1), LoopRanker.EMPTY);
        due("7: parallel rows that touch", loopWith(3, 0, 10, -6, 0, -20).greatest(0, 1, 0), 3);
        due("7: 0 <= -1 is empty", loopWith(0, 0, -1).greatest(0, 0, 0), LoopRanker.EMPTY);
        due("7: 0 <= -1 first", loopWith(0, 0, -1, 1, 0, 5).greatest(0, 1, 0), LoopRanker.EMPTY);
        due("7: 0 <= -1 last", loopWith(1, 0, 5, 0, 0, -1).greatest(0, 1, 0), LoopRanker.EMPTY);
        due("7: three rows that miss", loopWith(1, 0, 0, 0, 1, 0, -1, -1, -1).greatest(0, 1, 0), LoopRanker.EMPTY);
        due("7: three rows that touch", loopWith(1, 0, 0, 0, 1, 0, -1, -1, 0).greatest(0, -1, 0), 0);
        due("7: the first of four misses the last", loopWith(1, 0, 0, 0, 1, 5, 1, 1, 9, -1, 0, -1).greatest(0, 0, 1),
                LoopRanker.EMPTY);
        due("7: refused even if it is empty", loopWith(0, 0, -1).greatest(0, 61, 0), LoopRanker.NO_BOUND);
    }

    private static void dueHolds(String what, LoopRanker loop, int u, int v, String want) {
        String got = "";
        for (int i = 0; i < 3; i++) got += loop.holds(0, u, v, i) ? "y" : "n";
        due(what + " (" + u + ", " + v + ") holds " + got + ", due is " + want, got.equals(want), true);
    }

    private static void holds() {
        LoopRanker loop = loopWith(-1, 0, 0);
        loop.update(0, 0, 1, 0, -1);
        dueHolds("8: x", loop, 1, 0, "yyy");
        dueHolds("8: 4x", loop, 4, 0, "yyy");
        dueHolds("8: -x", loop, -1, 0, "nnn");
        dueHolds("8: y stays", loop, 0, 1, "ynn");
        dueHolds("8: x + y falls but is not bounded", loop, 1, 1, "yyn");
        for (int what = 0; what < 3; what++) {
            due("8: no such transition", loop.holds(1, 1, 0, what) || loop.holds(-1, 1, 0, what), false);
            due("8: both are 0", loop.holds(0, 0, 0, what), false);
            due("8: u is above", loop.holds(0, 5, 0, what), false);
            due("8: u is below", loop.holds(0, -5, 0, what) || loop.holds(0, LEAST, 0, what), false);
            due("8: v is above", loop.holds(0, 1, 5, what), false);
            due("8: v is below", loop.holds(0, 1, -5, what) || loop.holds(0, 1, LEAST, what), false);
        }
        due("8: what", loop.holds(0, 1, 0, 3) || loop.holds(0, 1, 0, -1) || loop.holds(0, 1, 0, LEAST), false);

        loop = loopWith(1, 0, 5, -1, 0, -1);
        loop.update(0, 0, 2, 0, 1);
        dueHolds("8: -x falls where x is positive", loop, -1, 0, "yyy");
        loop = loopWith(1, 0, 5, -1, 0, 1);
        loop.update(0, 0, 2, 0, 1);
        dueHolds("8: -x stays at x = -1", loop, -1, 0, "yny");
        loop = loopWith(1, 0, 5, -1, 0, 2);
        loop.update(0, 0, 2, 0, 1);
        dueHolds("8: -x grows at x = -2", loop, -1, 0, "nny");
        loop = loopWith();
        loop.update(0, 0, 2, 0, 0);
        dueHolds("8: with all pairs 2x grows somewhere", loop, 1, 0, "nnn");
        loop = loopWith(-1, -1, -2, 0, 1, 20, 0, -1, 20);
        loop.update(0, 0, 0, -1, 1);
        dueHolds("8: x becomes 1 - y where x + y >= 2", loop, 1, 0, "yyy");
    }

    private static void holdsAtRationalPoints() {
        LoopRanker half = loopWith(2, 0, 1, -2, 0, -1);
        half.update(0, 0, 2, 0, 0);
        dueHolds("8: x grows by a half", half, 1, 0, "nny");
        dueHolds("8: -x falls by a half only", half, -1, 0, "yny");
        dueHolds("8: -2x falls by 1", half, -2, 0, "yyy");
        half.update(0, 0, 0, 0, 0);
        dueHolds("8: x falls by a half only", half, 1, 0, "yny");
        dueHolds("8: 2x falls by 1", half, 2, 0, "yyy");
        due("9: 2x makes a level", half.levels(), 1);
        dueLevel("12: 2x", half, 0, 2, 0);
        due("13: 2x is 1", half.floor(0), 1);
    }

    private static void holdsWithEmptyGuard() {
        LoopRanker loop = loopWith(0, 0, -1);
        loop.update(0, 0, 3, 3, 20);
        loop.update(0, 1, 3, 3, 20);
        for (int u = -4; u <= 4; u++) {
            for (int v = -4; v <= 4; v++) {
                if (u != 0 || v != 0) dueHolds("8: empty guard", loop, u, v, "yyy");
            }
        }
        due("8: not the zero function", loop.holds(0, 0, 0, 0), false);
        due("9: one level", loop.levels(), 1);
        dueLevel("12: the first function", loop, 0, 1, 0);
        due("13: floor with empty guards alone", loop.floor(0), 0);
        loop.start(8, 9);
        due("19: budget by the formula", loop.budget(), 9);
        due("15: it can never be fired", loop.fire(0), false);
    }

    private static void levels() {
        LoopRanker loop = new LoopRanker();
        addStep(loop, -1, 0, -1);
        loop.update(0, 0, 1, 0, -1);
        loop.update(0, 1, 0, 0, 20);
        addStep(loop, 0, -1, -1);
        loop.update(1, 1, 0, 1, -1);
        due("9: two levels", loop.levels(), 2);
        due("10: proven", loop.proven(), true);
        due("11: the first", loop.levelOf(0), 0);
        due("11: the second", loop.levelOf(1), 1);
        dueLevel("12", loop, 0, 1, 0);
        dueLevel("12", loop, 1, 0, 1);
    }

    private static void levelsPreferMostRemoved() {
        LoopRanker loop = new LoopRanker();
        addStep(loop, -1, 0, -1, 0, -1, 0);
        loop.update(0, 0, 1, 0, -1);
        addStep(loop, -1, 0, 0, 0, -1, -1);
        loop.update(1, 1, 0, 1, -1);
        due("9: x + y removes both", loop.levels(), 1);
        dueLevel("12", loop, 0, 1, 1);
        due("11: both of level 0", loop.levelOf(0) + loop.levelOf(1), 0);
        due("13: the least of both", loop.floor(0), 1);
    }

    private static void levelsPreferLeastSum() {
        LoopRanker loop = loopWith(0, -1, 0, -1, 0, 0);
        loop.update(0, 1, 0, 1, -1);
        dueLevel("12: y before x + y and 4y", loop, 0, 0, 1);
        loop = loopWith(-1, -1, 0);
        loop.update(0, 0, 1, 0, -1);
        dueLevel("12: x + y before its multiples", loop, 0, 1, 1);
        loop = loopWith(1, 2, 0);
        loop.update(0, 1, 0, 1, 1);
        dueLevel("12: -x - 2y before its double", loop, 0, -1, -2);
    }

    private static void levelsPreferGreatestU() {
        LoopRanker loop = loopWith(-1, 0, 0, 0, -1, 0);
        loop.update(0, 0, 1, 0, -1);
        loop.update(0, 1, 0, 1, -1);
        dueLevel("12: x before y", loop, 0, 1, 0);
        loop = loopWith(1, 0, 0, 0, -1, 0);
        loop.update(0, 0, 1, 0, 1);
        loop.update(0, 1, 0, 1, -1);
        dueLevel("12: y before -x", loop, 0, 0, 1);
        loop = loopWith(1, 0, 0, 0, 1, 0);
        loop.update(0, 0, 1, 0, 1);
        loop.update(0, 1, 0, 1, 1);
        dueLevel("12: -y before -x", loop, 0, 0, -1);
    }

    private static void levelsPreferGreatestV() {
        LoopRanker loop = new LoopRanker();
        addStep(loop, -1, 1, 0);
        loop.update(0, 0, 1, 0, -1);
        addStep(loop, -1, -1, 0);
        loop.update(1, 0, 1, 0, -1);
        dueLevel("12: x + y before x - y", loop, 0, 1, 1);
        dueLevel("12: then x - y", loop, 1, 1, -1);
        due("11: the second goes first", loop.levelOf(1), 0);
        due("11: the first goes then", loop.levelOf(0), 1);
    }

    private static void unfinishedProof() {
        LoopRanker loop = new LoopRanker();
        addStep(loop, -1, 0, -5);
        loop.update(0, 0, 1, 0, -1);
        addStep(loop);
        due("9: one level", loop.levels(), 1);
        due("10: not proven", loop.proven(), false);
        due("11: of level 0", loop.levelOf(0), 0);
        due("11: left", loop.levelOf(1), LoopRanker.NONE);
        due("13: its floor", loop.floor(0), 5);
        due("18: its rank", loop.rank(0), 0);
        due("19: not proven, no budget", loop.budget(), LoopRanker.NONE);
        loop.guard(1, 0, 0, -1);
        due("10: proven when the other is empty", loop.proven(), true);
        due("9: by the one level", loop.levels(), 1);
        due("19: 0 - 5 + 1 is negative", loop.budget(), 0);
        loop.update(0, 0, 1, 0, 0);
        due("9: the empty one goes alone", loop.levels(), 1);
        due("11: the other is left", loop.levelOf(0), LoopRanker.NONE);
        due("11: the empty one is not", loop.levelOf(1), 0);
        due("10: not proven", loop.proven(), false);
    }

    // Every u * x + v * y with u > 0 falls on all six, but only one multiple is bounded on each.
    private static void sixLevels() {
        int[][] functions = {{1, -2}, {2, 1}, {1, 1}, {1, 2}, {1, -1}, {2, -1}};
        int[] order = {5, 2, 0, 4, 1, 3};
        LoopRanker loop = new LoopRanker();
        for (int t = 0; t < 6; t++) {
            addStep(loop, -functions[t][0], -functions[t][1], t);
            loop.update(t, 0, 1, 0, -1);
        }
        due("9: six levels", loop.levels(), 6);
        due("10: proven", loop.proven(), true);
        loop.start(100, 7);
        for (int t = 0; t < 6; t++) {
            int[] f = functions[t];
            due("11: level of " + t, loop.levelOf(t), order[t]);
            dueLevel("12", loop, order[t], f[0], f[1]);
            due("13: floor of level " + order[t], loop.floor(order[t]), -t);
            due("18: rank of level " + order[t], loop.rank(order[t]), 100 * f[0] + 7 * f[1]);
        }
        due("13: no seventh", loop.floor(6), LoopRanker.NO_BOUND);
        due("19: six levels, no budget", loop.budget(), LoopRanker.NONE);
    }

    private static void proofFollowsChanges() {
        LoopRanker loop = new LoopRanker();
        due("10: without transitions", loop.proven(), true);
        loop.transition();
        due("10: a new transition", loop.proven(), false);
        loop.update(0, 0, 1, 0, -1);
        due("10: falls without a bound", loop.proven(), false);
        loop.guard(0, -1, 0, 3);
        due("10: a guard", loop.proven(), true);
        due("13: its floor", loop.floor(0), -3);
        loop.guard(0, -1, 0, -2);
        due("13: another row", loop.floor(0), 2);
        loop.update(0, 0, 1, 0, 1);
        due("10: an update", loop.proven(), false);
        due("9: no level", loop.levels(), 0);
        loop.transition();
        loop.guard(1, -1, 0, 0);
        loop.update(1, 0, 1, 0, -2);
        due("10: x grows on the first", loop.proven(), false);
        due("9: so x makes no level", loop.levels(), 0);
        loop.remove(0);
        due("10: it is removed", loop.proven(), true);
        due("11: the other moved up", loop.levelOf(0), 0);
        due("11: nothing is behind", loop.levelOf(1), LoopRanker.NONE);
        loop.guard(0, 10, 0, 0);
        loop.update(0, 0, 4, 0, 0);
        due("10: refused calls change nothing", loop.proven(), true);
        due("13: the floor stays", loop.floor(0), 0);
        loop.start(10, 0);
        due("18: the rank follows the run", loop.rank(0), 10);
        loop.fire(0);
        due("18: after a step", loop.rank(0), 8);
    }

    private static void questionsWithoutLevel() {
        LoopRanker loop = loopWith(-1, 0, 0);
        loop.update(0, 0, 1, 0, -1);
        loop.start(7, 7);
        int[] none = {-1, 1, 6, LEAST, MOST};
        for (int level : none) {
            due("12: no level " + level, loop.coefficient(level, 0), 0);
            due("13: no level " + level, loop.floor(level), LoopRanker.NO_BOUND);
            due("18: no level " + level, loop.rank(level), LoopRanker.NO_BOUND);
            due("11: no transition " + level, loop.levelOf(level), LoopRanker.NONE);
        }
        int[] variables = {-1, 2, LEAST, MOST};
        for (int variable : variables) {
            due("12: no variable " + variable, loop.coefficient(0, variable), 0);
            due("16: no variable " + variable, loop.value(variable), 0);
        }
    }

    private static void floor() {
        LoopRanker loop = loopWith(-3, 0, -10);
        loop.update(0, 0, 1, 0, -1);
        due("13: 10/3 rounded up", loop.floor(0), 4);
        addStep(loop, -3, 0, 10);
        loop.update(1, 0, 1, 0, -1);
        due("13: -10/3 rounded up", loop.floor(0), -3);
        addStep(loop, 0, 0, -1, -1, 0, 99);
        due("13: an empty guard does not count", loop.floor(0), -3);
        loop.remove(1);
        due("13: nor does a 0 for it", loop.floor(0), 4);
        due("9: one level", loop.levels(), 1);
    }

    private static void start() {
        LoopRanker loop = loopWith();
        due("14: the edges", loop.start(-1000000, 1000000), true);
        due("16: x", loop.value(0), -1000000);
        due("16: y", loop.value(1), 1000000);
        loop.fire(0);
        int[][] refused = {{1000001, 0}, {-1000001, 0}, {0, 1000001}, {0, -1000001}, {LEAST, 0}, {0, LEAST}, {MOST, 0}};
        for (int[] s : refused) {
            due("14: refused " + s[0] + " " + s[1], loop.start(s[0], s[1]), false);
        }
        due("14: x is as before", loop.value(0), -1000000);
        due("14: y is as before", loop.value(1), 1000000);
        due("17: fired is as before", loop.fired(), 1);
        due("14: again", loop.start(1000000, -1000000), true);
        due("17: nothing fired since", loop.fired(), 0);
        due("16: x", loop.value(0), 1000000);
        due("16: y", loop.value(1), -1000000);
    }

    private static void fire() {
        LoopRanker loop = loopWith(1, 1, 5, -1, 0, 0);
        loop.update(0, 0, 0, 1, 1);
        loop.update(0, 1, 1, 0, 0);
        loop.start(2, 3);
        due("15: no such transition", loop.fire(1) || loop.fire(-1) || loop.fire(LEAST), false);
        due("15: the guard holds exactly", loop.fire(0), true);
        due("16: x", loop.value(0), 4);
        due("16: y from the old x", loop.value(1), 2);
        due("15: the first row does not hold", loop.fire(0), false);
        due("17: one fired", loop.fired(), 1);
        due("16: x is as before", loop.value(0), 4);
        due("16: y is as before", loop.value(1), 2);
        loop.start(-1, 0);
        due("15: the second row does not hold", loop.fire(0), false);
        due("17: none fired", loop.fired(), 0);
    }

    private static void fireAtTheEdge() {
        LoopRanker loop = loopWith();
        loop.update(0, 0, 3, 0, 0);
        addStep(loop);
        loop.update(1, 0, 1, 0, 20);
        addStep(loop);
        loop.update(2, 1, 1, 0, 0);
        loop.update(2, 0, 1, 0, 0);
        addStep(loop);
        loop.update(3, 0, 2, 0, 0);
        addStep(loop);
        loop.update(4, 0, -1, 0, 0);
        loop.update(4, 1, 0, -1, 0);
        loop.start(1000000, 0);
        for (int i = 0; i < 6; i++) due("15: doubles", loop.fire(3), true);
        // 64 million; times 5 is reached as 3x + 2y with y = x, again and again up to 10 to the 12.
        loop.update(3, 0, 3, 2, 0);
        for (int i = 0; i < 6; i++) {
            due("15: y becomes x", loop.fire(2), true);
            due("15: x becomes 5x", loop.fire(3), true);
        }
        due("16: a million millions", loop.value(0), 1000000000000L);
        due("15: 20 more are too many", loop.fire(1), false);
        due("15: three times is too much", loop.fire(0), false);
        due("15: y may be as great", loop.fire(2), true);
        due("15: and both as small", loop.fire(4), true);
        due("16: x", loop.value(0), -1000000000000L);
        due("16: y", loop.value(1), -1000000000000L);
        due("15: 20 more is inside again", loop.fire(1), true);
        loop.update(1, 0, 1, 0, -20);
        due("15: back at the edge", loop.fire(1), true);
        loop.update(1, 0, 1, 0, -1);
        due("15: one less is out", loop.fire(1), false);
        loop.update(1, 0, 1, 0, 5);
        loop.update(1, 1, 0, 1, -1);
        due("15: y alone is out", loop.fire(1), false);
        due("16: x is as before", loop.value(0), -1000000000000L);
        due("17: fired", loop.fired(), 6 + 12 + 4);
        loop.guard(1, 9, 9, -99);
        loop.update(1, 1, 0, 1, 0);
        due("15: a guard holds far out", loop.fire(1), true);
        loop.guard(1, -9, -9, 99);
        due("15: a guard does not hold far out", loop.fire(1), false);
    }

    private static void rank() {
        LoopRanker loop = loopWith(-2, 3, 0);
        loop.update(0, 0, 1, 0, -1);
        loop.start(-1000000, 1000000);
        dueLevel("12: 2x - 3y", loop, 0, 2, -3);
        due("18: by x and y", loop.rank(0), -5000000);
        due("19: negative is 0", loop.budget(), 0);
        loop.start(1000000, -1000000);
        due("18: by x and y", loop.rank(0), 5000000);
        due("19: rank - floor + 1", loop.budget(), 5000001);
    }

    private static void budget() {
        LoopRanker loop = loopWith(-1, 0, -2);
        loop.update(0, 0, 1, 0, -1);
        due("13: floor", loop.floor(0), 2);
        int[][] pairs = {{5, 4}, {2, 1}, {1, 0}, {0, 0}, {-7, 0}};
        for (int[] p : pairs) {
            loop.start(p[0], 0);
            due("19: budget at " + p[0], loop.budget(), p[1]);
        }
        addStep(loop, 0, -1, 0);
        due("19: not proven", loop.budget(), LoopRanker.NONE);
        loop.update(1, 1, 0, 1, -1);
        due("9: two levels", loop.levels(), 2);
        due("19: proven by two levels", loop.budget(), LoopRanker.NONE);
        loop.remove(0);
        loop.start(0, 0);
        due("19: proven by one again", loop.budget(), 1);
        loop.remove(0);
        due("19: no transitions", loop.budget(), LoopRanker.NONE);
    }
}
