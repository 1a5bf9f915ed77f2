/** The sentences of the document's promises 1 to 19 that name a boundary case, a test each. */
public final class EdgeTest {
    private static final int LEAST = Checks.LEAST;
    private static final int MOST = Checks.MOST;
    private static final long FAR = 1000000000000L;
    private static final long NO_BOUND = LoopRanker.NO_BOUND;

    public static void main(String[] args) {
        newObject();
        newTransition();
        transitionWhenThereAreSix();
        guardCounts();
        guardWithFour();
        guardWithBothZero();
        updateOfOneVariable();
        updateOfNoVariable();
        updateAtTheEndOfItsRange();
        removeMovesUp();
        removeWhenThereIsNone();
        howManyTransitions();
        greatestRoundedDown();
        greatestFarOut();
        greatestWhenThereIsNone();
        greatestOfTheZeroSum();
        greatestOfAnEmptyGuard();
        greatestRangeOfUAndV();
        holdsRangeOfUAndV();
        holdsBothZero();
        holdsWhat();
        howManyLevels();
        proven();
        levelOfNone();
        coefficientOfNoLevel();
        coefficientOfNoVariable();
        coefficientsAtTheirEnds();
        floorOfNoLevel();
        startRange();
        startForgetsWhatWasFired();
        fireWhenTheGuardHolds();
        fireBeyondInt();
        fireUpToTheEdge();
        fireWithGreatParts();
        fireNoSuchTransition();
        valueOfAnotherVariable();
        firedSinceTheLatestStart();
        firedOften();
        rankOfNoLevel();
        rankFarOut();
        budgetAroundZero();
        budgetOfARoundedFloor();
        budgetOfEmptyGuards();
        budgetFarOut();
        budgetOtherwise();
        Checks.finish("EdgeTest");
    }

    private static void due(String what, long got, long want) {
        Checks.due(what, got, want);
    }

    private static void due(String what, boolean got, boolean want) {
        Checks.due(what, got, want);
    }

    private static void due(String what, String got, String want) {
        Checks.due(what, got, want);
    }

    private static CountedLoop loopWith(int... rows) {
        return Checks.loopWith(rows);
    }

    /** One transition, x >= least, x becomes x - 1. */
    private static CountedLoop countdown(int least) {
        CountedLoop loop = loopWith(-1, 0, -least);
        loop.update(0, 0, 1, 0, -1);
        return loop;
    }

    private static void newObject() {
        Checks.sentence("1: No transitions; x and y are 0, nothing fired.");
        CountedLoop loop = new CountedLoop();
        due("transitions", loop.transitions(), 0);
        due("x and y", Checks.place(loop), "0,0");
        due("fired", loop.fired(), 0);
        due("levels", loop.levels(), 0);
        due("proven", loop.proven(), true);
        due("budget", loop.budget(), -1);
        due("levelOf", loop.levelOf(0), -1);
        due("function", Checks.function(loop, 0), "0,0");
        due("floor", loop.floor(0), NO_BOUND);
        due("rank", loop.rank(0), NO_BOUND);
        due("greatest", loop.greatest(0, 0, 0), NO_BOUND);
        due("holds", Checks.kinds(loop, 0, 1, 0), "nnn");
        due("fire", loop.fire(0), false);
        due("remove", loop.remove(0), false);
        due("guard", loop.guard(0, 0, 0, 0), -1);
        due("update", loop.update(0, 0, 0, 0, 0), false);
        due("the first transition", loop.transition(), 0);
        due("another object has none", new CountedLoop().transitions(), 0);
    }

    private static void newTransition() {
        Checks.sentence("2: A new transition at the end, without inequalities, that leaves x and y as they are");
        for (int place = 0; place < 6; place++) {
            CountedLoop loop = new CountedLoop();
            for (int t = 0; t < 6; t++) fill(loop);
            loop.remove(place);
            due("at the end", loop.transition(), 5);
            loop.start(-17, 23);
            due("it fires", loop.fire(5), true);
            due("it leaves x and y", Checks.place(loop), "-17,23");
            due("it has all pairs", loop.greatest(5, 1, 0), NO_BOUND);
            due("nothing grows, falls or is bounded", Checks.kinds(loop, 5, 1, -1), "ynn");
            due("it is left", loop.levelOf(5), -1);
            due("its first inequality", loop.guard(5, 1, 0, 9), 1);
            due("is its own", loop.greatest(5, 1, 0), 9);
            due("the one before is as it was", loop.greatest(4, 1, 0), LoopRanker.EMPTY);
        }
    }

    /** A transition that differs from a new one in all that it has. */
    private static void fill(CountedLoop loop) {
        int t = Checks.addStep(loop, 1, 0, -5, -1, 0, 4, 9, 9, 9, 0, 0, -1);
        loop.update(t, 0, 3, 3, 20);
        loop.update(t, 1, -3, -3, -20);
    }

    private static void transitionWhenThereAreSix() {
        Checks.sentence("2: its number; NONE, refused, when there are six");
        CountedLoop loop = new CountedLoop();
        for (int t = 0; t < 6; t++) due("number", loop.transition(), t);
        for (int again = 0; again < 3; again++) due("none more", loop.transition(), LoopRanker.NONE);
        loop.remove(0);
        loop.remove(0);
        due("room for a fifth", loop.transition(), 4);
        due("room for a sixth", loop.transition(), 5);
        due("none more", loop.transition(), LoopRanker.NONE);
    }

    private static void guardCounts() {
        Checks.sentence("3: how many it has then");
        CountedLoop loop = new CountedLoop();
        loop.transition();
        loop.transition();
        for (int i = 1; i <= 4; i++) {
            due("of 0", loop.guard(0, 1, 1, 1), i);
            due("of 1, the same one again", loop.guard(1, 1, 1, 1), i);
        }
        loop.remove(0);
        due("of the one that moved up", loop.guard(0, 1, 1, 1), -1);
        loop.transition();
        due("of a new one", loop.guard(1, 1, 1, 1), 1);
    }

    private static void guardWithFour() {
        Checks.sentence("3: NONE, refused, when .. it has four");
        CountedLoop loop = loopWith(1, 0, 8, 1, 0, 7, 1, 0, 6);
        due("a fourth", loop.guard(0, 1, 0, 5), 4);
        due("it stands", loop.greatest(0, 1, 0), 5);
        due("a fifth", loop.guard(0, 1, 0, 4), LoopRanker.NONE);
        due("it does not stand", loop.greatest(0, 1, 0), 5);
        due("a fifth that would make it empty", loop.guard(0, 0, 0, -1), LoopRanker.NONE);
        due("it is not empty", loop.greatest(0, 1, 0), 5);
        loop.start(5, 0);
        due("and fires", loop.fire(0), true);
    }

    private static void guardWithBothZero() {
        Checks.sentence("3: (p and q may both be 0.)");
        int[] taken = {-99, -1, 0, 1, 99};
        for (int r : taken) {
            CountedLoop loop = new CountedLoop();
            loop.transition();
            due("0 <= " + r, loop.guard(0, 0, 0, r), 1);
            due("the zero sum", loop.greatest(0, 0, 0), r < 0 ? LoopRanker.EMPTY : 0);
            due("x", loop.greatest(0, 1, 0), r < 0 ? LoopRanker.EMPTY : NO_BOUND);
            due("it fires", loop.fire(0), r >= 0);
            due("x is bounded", loop.holds(0, 1, 0, 2), r < 0);
        }
    }

    private static void updateOfOneVariable() {
        Checks.sentence("4: The update of transition t for x (variable 0) or y (variable 1) becomes a * x + b * y + c");
        CountedLoop loop = loopWith();
        loop.transition();
        due("x", loop.update(0, 0, 2, 3, 4), true);
        loop.start(10, 100);
        loop.fire(0);
        due("y stays as it is", Checks.place(loop), "324,100");
        due("y", loop.update(0, 1, -2, -3, -4), true);
        loop.start(10, 100);
        loop.fire(0);
        due("x is as it was told before", Checks.place(loop), "324,-324");
        loop.start(10, 100);
        loop.fire(1);
        due("another transition is as it was", Checks.place(loop), "10,100");
    }

    private static void updateOfNoVariable() {
        Checks.sentence("4: False, refused, when there is no such .. variable");
        CountedLoop loop = loopWith();
        int[] outside = {-1, 2, 3, 256, LEAST, MOST};
        for (int variable : outside) due("variable " + variable, loop.update(0, variable, 0, 0, 7), false);
        loop.start(1, 2);
        loop.fire(0);
        due("nothing was changed", Checks.place(loop), "1,2");
    }

    private static void updateAtTheEndOfItsRange() {
        Checks.sentence("4: False, refused, when .. |a| or |b| is above 3, or |c| above 20");
        int[] ends = {-1, 1};
        for (int sign : ends) {
            CountedLoop loop = loopWith();
            due("x, all at their ends", loop.update(0, 0, 3 * sign, 3 * sign, 20 * sign), true);
            due("y, all at their ends", loop.update(0, 1, -3 * sign, -3 * sign, -20 * sign), true);
            for (int variable = 0; variable <= 1; variable++) {
                due("a beyond", loop.update(0, variable, 4 * sign, 0, 0), false);
                due("b beyond", loop.update(0, variable, 0, 4 * sign, 0), false);
                due("c beyond", loop.update(0, variable, 0, 0, 21 * sign), false);
                due("all beyond", loop.update(0, variable, 4 * sign, 4 * sign, 21 * sign), false);
                due("all far beyond", loop.update(0, variable, LEAST, MOST, LEAST), false);
            }
            loop.start(1000000, 1000000);
            due("it fires", loop.fire(0), true);
            due("as it was taken", Checks.place(loop), 6000020 * sign + "," + -6000020 * sign);
        }
    }

    private static void removeMovesUp() {
        Checks.sentence("5: Transition t is taken out, those behind it move up by one: true");
        for (int count = 1; count <= 6; count++) {
            for (int out = 0; out < count; out++) {
                CountedLoop loop = new CountedLoop();
                for (int t = 0; t < count; t++) {
                    Checks.addStep(loop, 1, 0, 10 * t);
                    loop.update(t, 1, 0, 0, t);
                }
                due("taken out", loop.remove(out), true);
                due("one less", loop.transitions(), count - 1);
                for (int t = 0; t < count - 1; t++) {
                    int was = t < out ? t : t + 1;
                    due("guard of " + t, loop.greatest(t, 1, 0), 10 * was);
                    loop.fire(t);
                    due("update of " + t, loop.value(1), was);
                }
                due("nothing behind", loop.greatest(count - 1, 0, 0), NO_BOUND);
                due("nothing fires behind", loop.fire(count - 1), false);
                due("the run goes on", loop.fired(), count - 1);
            }
        }
    }

    private static void removeWhenThereIsNone() {
        Checks.sentence("5: False when there is none.");
        CountedLoop loop = new CountedLoop();
        for (int count = 0; count <= 6; count++) {
            int[] outside = {-1, count, count + 1, LEAST, MOST};
            for (int t : outside) due("remove " + t + " of " + count, loop.remove(t), false);
            due("none was taken out", loop.transitions(), count);
            loop.transition();
        }
        for (int count = 6; count > 0; count--) due("the last of " + count, loop.remove(count - 1), true);
        due("none is left to take out", loop.remove(0), false);
    }

    private static void howManyTransitions() {
        Checks.sentence("6: How many transitions there are.");
        CountedLoop loop = new CountedLoop();
        for (int count = 0; count < 6; count++) {
            due("before", loop.transitions(), count);
            loop.transition();
        }
        due("six", loop.transitions(), 6);
        loop.transition();
        due("six still", loop.transitions(), 6);
        for (int count = 5; count >= 0; count--) {
            loop.remove(count / 2);
            due("after", loop.transitions(), count);
        }
        loop.remove(0);
        due("none still", loop.transitions(), 0);
    }

    private static void greatestRoundedDown() {
        Checks.sentence("7: rounded down to a whole number");
        for (int r = -99; r <= 99; r++) {
            CountedLoop loop = loopWith(7, 0, r, 0, -9, r);
            due("7x <= " + r, loop.greatest(0, 1, 0), Math.floorDiv(r, 7));
            due("7x <= " + r + ", 60x", loop.greatest(0, 60, 0), Math.floorDiv(60 * r, 7));
            due("-9y <= " + r, loop.greatest(0, 0, -1), Math.floorDiv(r, 9));
            due("-9y <= " + r + ", -60y", loop.greatest(0, 0, -60), Math.floorDiv(60 * r, 9));
            due("both", loop.greatest(0, 1, -1), Math.floorDiv(16 * r, 63));
        }
    }

    private static void greatestFarOut() {
        Checks.sentence("7: The greatest value of u * x + v * y at the points of transition t's guard");
        // The first corner is at x = -1485, y = 1683, the farthest that two rows have.
        CountedLoop loop = loopWith(9, 8, 99, -8, -7, 99);
        due("far above 0", loop.greatest(0, -60, 60), 60 * (1485 + 1683));
        due("the other way", loop.greatest(0, 60, -60), NO_BOUND);
        CountedLoop turned = loopWith(-9, -8, -99, 8, 7, -99);
        due("far below 0", turned.greatest(0, 60, -60), -60 * (1485 + 1683));
        CountedLoop point = loopWith(9, 8, 99, -8, -7, 99, 1, 0, -99, -9, -8, -99);
        due("along a half line", point.greatest(0, 0, 60), 60 * 1683);
        due("its other end", point.greatest(0, 60, 0), 60 * -99);
    }

    private static void greatestWhenThereIsNone() {
        Checks.sentence("7: NO_BOUND when there is none greatest");
        CountedLoop half = loopWith(1, 1, 0);
        due("across", half.greatest(0, 60, 60), 0);
        due("nearly across", half.greatest(0, 60, 59), NO_BOUND);
        due("nearly across, the other side", half.greatest(0, 59, 60), NO_BOUND);
        due("back", half.greatest(0, -1, -1), NO_BOUND);
        CountedLoop wedge = loopWith(9, 1, 0, 1, 9, 0);
        due("at the edge of the wedge", wedge.greatest(0, 54, 6), 0);
        due("just inside", wedge.greatest(0, 54, 7), 0);
        due("just outside", wedge.greatest(0, 54, 5), NO_BOUND);
        due("at the other edge", wedge.greatest(0, 6, 54), 0);
        due("just outside there", wedge.greatest(0, 5, 54), NO_BOUND);
    }

    private static void greatestOfTheZeroSum() {
        Checks.sentence("7: u and v both 0 are not refused");
        due("all pairs", loopWith().greatest(0, 0, 0), 0);
        due("a half", loopWith(1, 0, -50).greatest(0, 0, 0), 0);
        due("one point", loopWith(1, 0, 3, -1, 0, -3, 0, 1, 3, 0, -1, -3).greatest(0, 0, 0), 0);
        due("none", loopWith(1, 0, 3, -1, 0, -4).greatest(0, 0, 0), LoopRanker.EMPTY);
        due("no transition", new CountedLoop().greatest(0, 0, 0), NO_BOUND);
    }

    private static void greatestOfAnEmptyGuard() {
        Checks.sentence("7: EMPTY when the guard is empty");
        CountedLoop loop = loopWith(1, 0, 0, -1, 0, -1);
        for (int u = -60; u <= 60; u += 30) {
            for (int v = -60; v <= 60; v += 30) due("empty " + u + " " + v, loop.greatest(0, u, v), LoopRanker.EMPTY);
        }
        due("61 is refused all the same", loop.greatest(0, 61, 0), NO_BOUND);
        due("-61 is refused all the same", loop.greatest(0, 0, -61), NO_BOUND);
        due("another transition", loop.greatest(1, 0, 0), NO_BOUND);
    }

    private static void greatestRangeOfUAndV() {
        Checks.sentence("7: NO_BOUND, refused, when .. |u| or |v| is above 60");
        CountedLoop box = loopWith(1, 0, 1, -1, 0, 1, 0, 1, 1, 0, -1, 1);
        for (int u = -60; u <= 60; u++) {
            due("u = " + u, box.greatest(0, u, 0), Math.abs(u));
            due("v = " + u, box.greatest(0, 0, u), Math.abs(u));
        }
        int[] ends = {-60, 60};
        for (int u : ends) {
            for (int v : ends) due("both " + u + " " + v, box.greatest(0, u, v), 120);
        }
        int[] outside = {61, -61, 62, -62, 256, LEAST, MOST, LEAST + 1};
        for (int u : outside) {
            due("u = " + u, box.greatest(0, u, 0), NO_BOUND);
            due("v = " + u, box.greatest(0, 0, u), NO_BOUND);
            due("both = " + u, box.greatest(0, u, u), NO_BOUND);
            due("u = " + u + ", v = 60", box.greatest(0, u, 60), NO_BOUND);
        }
    }

    private static void holdsRangeOfUAndV() {
        Checks.sentence("8: False when .. u or v is not -4 .. 4");
        CountedLoop empty = loopWith(0, 0, -1);
        for (int u = -4; u <= 4; u += 2) {
            if (u == 0) continue;
            due("u = " + u, Checks.kinds(empty, 0, u, 0), "yyy");
            due("v = " + u, Checks.kinds(empty, 0, 0, u), "yyy");
            due("both = " + u, Checks.kinds(empty, 0, u, u), "yyy");
        }
        int[] outside = {5, -5, 6, -6, 260, LEAST, MOST, LEAST + 1};
        for (int u : outside) {
            due("u = " + u, Checks.kinds(empty, 0, u, 0), "nnn");
            due("v = " + u, Checks.kinds(empty, 0, 0, u), "nnn");
            due("both = " + u, Checks.kinds(empty, 0, u, u), "nnn");
            due("u = " + u + ", v = 4", Checks.kinds(empty, 0, u, 4), "nnn");
        }
        CountedLoop down = loopWith(-1, 0, 5, 0, -1, 5);
        down.update(0, 0, 1, 0, -1);
        down.update(0, 1, 0, 1, -1);
        due("4, 4 on an ordinary guard", Checks.kinds(down, 0, 4, 4), "yyy");
        due("-4, -4 on an ordinary guard", Checks.kinds(down, 0, -4, -4), "nnn");
        due("5, 4 on an ordinary guard", Checks.kinds(down, 0, 5, 4), "nnn");
        due("4, 5 on an ordinary guard", Checks.kinds(down, 0, 4, 5), "nnn");
    }

    private static void holdsBothZero() {
        Checks.sentence("8: False when .. both are 0");
        CountedLoop loop = countdown(0);
        due("both", Checks.kinds(loop, 0, 0, 0), "nnn");
        due("v alone", Checks.kinds(loop, 0, 1, 0), "yyy");
        due("u alone", Checks.kinds(loop, 0, 0, 1), "ynn");
        loop.guard(0, 0, 0, -1);
        due("both, empty", Checks.kinds(loop, 0, 0, 0), "nnn");
    }

    private static void holdsWhat() {
        Checks.sentence("8: False when .. what is none of these");
        CountedLoop ordinary = countdown(0);
        CountedLoop empty = loopWith(0, 0, -1);
        int[] outside = {-1, 3, 4, 256, -256, LEAST, MOST};
        for (int what = 0; what <= 2; what++) {
            due("what = " + what, ordinary.holds(0, 1, 0, what), true);
            due("what = " + what + ", empty", empty.holds(0, 1, 0, what), true);
        }
        for (int what : outside) {
            due("what = " + what, ordinary.holds(0, 1, 0, what), false);
            due("what = " + what + ", empty", empty.holds(0, 1, 0, what), false);
        }
    }

    // Every u * x + v * y with u > 0 falls on all of these, but only its own is bounded on each.
    private static final int[][] OWN = {{1, 1}, {1, -1}, {2, 1}, {2, -1}, {1, 2}, {1, -2}};

    private static CountedLoop ladder(int count) {
        CountedLoop loop = new CountedLoop();
        for (int t = 0; t < count; t++) {
            Checks.addStep(loop, -OWN[t][0], -OWN[t][1], t);
            loop.update(t, 0, 1, 0, -1);
        }
        return loop;
    }

    private static void howManyLevels() {
        Checks.sentence("9: How many levels the proof has.");
        for (int count = 0; count <= 6; count++) {
            CountedLoop loop = ladder(count);
            due(count + " levels", loop.levels(), count);
            due("proven", loop.proven(), true);
            for (int t = 0; t < count; t++) due("a level each", Checks.function(loop, loop.levelOf(t)), OWN[t][0] + "," + OWN[t][1]);
            if (count == 0) continue;
            loop.update(0, 0, 1, 0, 0);
            due("one less", loop.levels(), count - 1);
        }
    }

    private static void proven() {
        Checks.sentence("10: Whether the loop is proven.");
        due("no transitions", new CountedLoop().proven(), true);
        due("a new one", loopWith().proven(), false);
        due("an empty one", loopWith(0, 0, -1).proven(), true);
        due("a countdown", countdown(5).proven(), true);
        CountedLoop loop = ladder(5);
        due("five levels", loop.proven(), true);
        loop.transition();
        due("a sixth transition without a level", loop.proven(), false);
        loop.guard(5, 0, 0, -1);
        due("it is empty", loop.proven(), true);
    }

    private static void levelOfNone() {
        Checks.sentence("11: NONE when it is left, or there is no such transition");
        CountedLoop loop = ladder(5);
        loop.transition();
        due("left", loop.levelOf(5), LoopRanker.NONE);
        due("the first", loop.levelOf(0), 0);
        due("the fifth", loop.levelOf(4), 4);
        int[] outside = {-1, 6, 7, LEAST, MOST};
        for (int t : outside) due("transition " + t, loop.levelOf(t), LoopRanker.NONE);
        loop.remove(5);
        due("not there any more", loop.levelOf(5), LoopRanker.NONE);
        loop.remove(4);
        due("of level 4 before, not there any more", loop.levelOf(4), LoopRanker.NONE);
    }

    private static void coefficientOfNoLevel() {
        Checks.sentence("12: 0 when there is no such level");
        for (int count = 0; count <= 6; count++) {
            CountedLoop loop = ladder(count);
            int[] outside = {-1, count, count + 1, 6, LEAST, MOST};
            for (int level : outside) due("level " + level + " of " + count, Checks.function(loop, level), "0,0");
            if (count > 0) due("the last of " + count, loop.coefficient(count - 1, 0) != 0, true);
        }
        CountedLoop less = ladder(2);
        due("two at first", less.coefficient(1, 0), 1);
        less.remove(0);
        due("then one", less.coefficient(1, 0), 0);
    }

    private static void coefficientOfNoVariable() {
        Checks.sentence("12: 0 when there is no such .. variable");
        CountedLoop loop = loopWith(-2, 3, 0);
        loop.update(0, 0, 1, 0, -1);
        due("u and v", Checks.function(loop, 0), "2,-3");
        int[] outside = {-1, 2, 3, 256, LEAST, MOST};
        for (int variable : outside) {
            due("variable " + variable, loop.coefficient(0, variable), 0);
            due("variable " + variable + ", no level", loop.coefficient(1, variable), 0);
        }
    }

    private static void coefficientsAtTheirEnds() {
        Checks.sentence("12: u (variable 0) or v (variable 1) of the function of a level");
        int[][] ends = {{4, 3}, {4, -3}, {-4, 3}, {-4, -3}, {3, 4}, {3, -4}, {-3, 4}, {-3, -4}};
        for (int[] f : ends) {
            CountedLoop loop = loopWith(-f[0], -f[1], 0);
            loop.update(0, 0, 1, 0, f[0] > 0 ? -1 : 1);
            due("u", loop.coefficient(0, 0), f[0]);
            due("v", loop.coefficient(0, 1), f[1]);
        }
    }

    private static void floorOfNoLevel() {
        Checks.sentence("13: NO_BOUND when there is no such level");
        for (int count = 0; count <= 6; count++) {
            CountedLoop loop = ladder(count);
            int[] outside = {-1, count, count + 1, 6, LEAST, MOST};
            for (int level : outside) due("level " + level + " of " + count, loop.floor(level), NO_BOUND);
            for (int t = 0; t < count; t++) due("level of " + t, loop.floor(loop.levelOf(t)), -t);
        }
    }

    private static void startRange() {
        Checks.sentence("14: False, refused, when one of them is not -1000000 .. 1000000");
        CountedLoop loop = new CountedLoop();
        int[] taken = {-1000000, -999999, -1, 0, 1, 999999, 1000000};
        for (int x : taken) {
            for (int y : taken) {
                due("start", loop.start(x, y), true);
                due("x and y", Checks.place(loop), x + "," + y);
            }
        }
        loop.start(-3, 4);
        int[] outside = {-1000001, 1000001, LEAST, MOST, LEAST + 1, 1 << 24, -(1 << 24)};
        for (int far : outside) {
            due("x = " + far, loop.start(far, 0), false);
            due("y = " + far, loop.start(0, far), false);
            due("both = " + far, loop.start(far, far), false);
            due("x and y as before", Checks.place(loop), "-3,4");
        }
    }

    private static void startForgetsWhatWasFired() {
        Checks.sentence("14: x and y get these values, and nothing has been fired since: true");
        CountedLoop loop = loopWith();
        loop.fire(0);
        loop.fire(0);
        due("two fired", loop.fired(), 2);
        due("refused", loop.start(1000001, 0), false);
        due("two fired still", loop.fired(), 2);
        due("the same values", loop.start(0, 0), true);
        due("nothing fired since", loop.fired(), 0);
        loop.fire(0);
        due("again", loop.start(1000000, -1000000), true);
        due("nothing fired since", loop.fired(), 0);
        due("again without a step between", loop.start(5, 5), true);
        due("the transitions stay", loop.transitions(), 1);
    }

    private static void fireWhenTheGuardHolds() {
        Checks.sentence("15: False, refused, when .. its guard does not hold");
        CountedLoop loop = loopWith(9, -9, 99);
        int[][] pairs = {{11, 0}, {0, -11}, {1000000, 999989}, {-1000000, 1000000}};
        for (int[] p : pairs) {
            loop.start(p[0], p[1]);
            due("it holds at " + p[0] + "," + p[1], loop.fire(0), true);
        }
        int[][] beyond = {{12, 0}, {0, -12}, {1000000, 999988}, {1000000, -1000000}};
        for (int[] p : beyond) {
            loop.start(p[0], p[1]);
            due("it does not hold at " + p[0] + "," + p[1], loop.fire(0), false);
            due("nothing fired", loop.fired(), 0);
            due("x and y as before", Checks.place(loop), p[0] + "," + p[1]);
        }
        due("an empty guard holds nowhere", loopWith(0, 0, -1).fire(0), false);
    }

    private static void fireBeyondInt() {
        Checks.sentence("15: Fires transition t (where an int would wrap around)");
        CountedLoop loop = loopWith();
        loop.update(0, 0, 2, 0, 0);
        Checks.addStep(loop, 1, 0, 99);
        Checks.addStep(loop, -1, 0, 99);
        Checks.addStep(loop, 9, 0, 99);
        Checks.addStep(loop, -9, 0, 99);
        loop.start(1, 0);
        long x = 1;
        for (int i = 1; i <= 39; i++) {
            due("doubled " + i + " times", loop.fire(0), true);
            x *= 2;
            due("x", loop.value(0), x);
            if (i < 28) continue;
            due("x <= 99", loop.fire(1), false);
            due("-x <= 99", loop.fire(2), true);
            due("9x <= 99", loop.fire(3), false);
            due("-9x <= 99", loop.fire(4), true);
        }
        due("40 times is too much", loop.fire(0), false);
        due("x as before", loop.value(0), 1L << 39);
    }

    /** Leaves x = y = 10 to the 12; transition 0 is the one that it was done with. */
    private static CountedLoop farLoop() {
        CountedLoop loop = loopWith();
        loop.update(0, 1, 1, 0, 0);
        loop.start(1000000, 1000000);
        // Both become 10x: 2x, then 3x + 2y with y = x.
        for (int i = 0; i < 6; i++) {
            loop.update(0, 0, 2, 0, 0);
            loop.update(0, 1, 2, 0, 0);
            loop.fire(0);
            loop.update(0, 0, 3, 2, 0);
            loop.update(0, 1, 3, 2, 0);
            loop.fire(0);
        }
        return loop;
    }

    private static void fireUpToTheEdge() {
        Checks.sentence("15: or x or y would not be -1000000000000 .. 1000000000000");
        for (int variable = 0; variable <= 1; variable++) {
            for (int sign = -1; sign <= 1; sign += 2) {
                CountedLoop loop = farLoop();
                due("both far out", Checks.place(loop), FAR + "," + FAR);
                loop.update(0, 0, sign, 0, 0);
                loop.update(0, 1, 0, sign, 0);
                due("both at their end", loop.fire(0), true);
                int other = 1 - variable;
                loop.update(0, 0, 1, 0, 0);
                loop.update(0, 1, 0, 1, 0);
                due("staying there", loop.fire(0), true);
                int fired = loop.fired();
                setConstant(loop, variable, sign);
                setConstant(loop, other, -sign);
                due("one beyond", loop.fire(0), false);
                setConstant(loop, variable, 20 * sign);
                due("20 beyond", loop.fire(0), false);
                due("the other stays too", Checks.place(loop), FAR * sign + "," + FAR * sign);
                due("nothing fired", loop.fired(), fired);
                setConstant(loop, variable, -sign);
                due("one inside", loop.fire(0), true);
                setConstant(loop, variable, sign);
                setConstant(loop, other, sign);
                due("back to the end", loop.fire(0), true);
                due("both at their end", Checks.place(loop), FAR * sign + "," + FAR * sign);
                loop.update(0, variable, 3, 3, 20 * sign);
                due("six times as far", loop.fire(0), false);
                loop.update(0, variable, -3, -3, -20 * sign);
                due("six times as far on the other side", loop.fire(0), false);
                due("nothing changed", Checks.place(loop), FAR * sign + "," + FAR * sign);
            }
        }
    }

    private static void setConstant(CountedLoop loop, int variable, int c) {
        loop.update(0, variable, variable == 0 ? 1 : 0, variable == 1 ? 1 : 0, c);
    }

    private static void fireWithGreatParts() {
        Checks.sentence("15: x or y would not be .. (the sum counts, not its parts)");
        CountedLoop loop = farLoop();
        loop.update(0, 0, 3, -3, 20);
        loop.update(0, 1, -3, 3, -20);
        Checks.addStep(loop, 9, -9, 0, -9, 9, 0);
        Checks.addStep(loop, 9, 9, 99);
        Checks.addStep(loop, -9, -9, -99);
        due("a guard whose parts are far out", loop.fire(1), true);
        due("a guard that is far from holding", loop.fire(2), false);
        due("a guard that holds by far", loop.fire(3), true);
        due("3x - 3y + 20", loop.fire(0), true);
        due("x and y", Checks.place(loop), "20,-20");
    }

    private static void fireNoSuchTransition() {
        Checks.sentence("15: False, refused, when there is no such transition");
        CountedLoop loop = new CountedLoop();
        int[] outside = {-1, 0, 1, 5, 6, LEAST, MOST};
        for (int t : outside) due("fire " + t + " of none", loop.fire(t), false);
        for (int t = 0; t < 6; t++) loop.transition();
        due("fire 5", loop.fire(5), true);
        due("fire 6", loop.fire(6), false);
        due("fire -1", loop.fire(-1), false);
        loop.remove(0);
        due("fire 5 after one was taken out", loop.fire(5), false);
        due("one fired", loop.fired(), 1);
    }

    private static void valueOfAnotherVariable() {
        Checks.sentence("16: 0 for another variable");
        CountedLoop loop = new CountedLoop();
        loop.start(-1000000, 1000000);
        due("x", loop.value(0), -1000000);
        due("y", loop.value(1), 1000000);
        int[] outside = {-1, 2, 3, 256, 257, LEAST, MOST};
        for (int variable : outside) due("variable " + variable, loop.value(variable), 0);
    }

    private static void firedSinceTheLatestStart() {
        Checks.sentence("17: How many transitions were fired since the latest start (or since the beginning).");
        CountedLoop loop = loopWith(1, 0, 5);
        due("at the beginning", loop.fired(), 0);
        due("one that changes nothing counts", loop.fire(0) && loop.fired() == 1, true);
        loop.fire(1);
        due("one that is not there does not count", loop.fired(), 1);
        loop.start(6, 0);
        due("since the start", loop.fired(), 0);
        loop.fire(0);
        due("one that does not hold does not count", loop.fired(), 0);
        loop.start(5, 0);
        loop.fire(0);
        loop.transition();
        loop.fire(1);
        loop.remove(0);
        due("one that was taken out since counts", loop.fired(), 2);
        loop.remove(0);
        due("with no transitions", loop.fired(), 2);
    }

    private static void firedOften() {
        Checks.sentence("17: fired up to an object's last call");
        CountedLoop loop = loopWith();
        loop.update(0, 0, 1, 0, 20);
        for (int i = 0; i < 508; i++) loop.fire(0);
        due("fired", loop.fired(), 508);
        due("x", loop.value(0), 508 * 20);
    }

    private static void rankOfNoLevel() {
        Checks.sentence("18: NO_BOUND when there is no such level");
        for (int count = 0; count <= 6; count++) {
            CountedLoop loop = ladder(count);
            loop.start(100, 7);
            int[] outside = {-1, count, count + 1, 6, LEAST, MOST};
            for (int level : outside) due("level " + level + " of " + count, loop.rank(level), NO_BOUND);
            for (int t = 0; t < count; t++) {
                due("level of " + t, loop.rank(loop.levelOf(t)), 100 * OWN[t][0] + 7 * OWN[t][1]);
            }
        }
    }

    private static void rankFarOut() {
        Checks.sentence("18: The value that the function of a level has for x and y");
        int[][] functions = {{4, 3}, {-4, -3}, {3, 4}, {4, -3}};
        for (int[] f : functions) {
            CountedLoop loop = farLoop();
            loop.guard(0, -f[0], -f[1], 0);
            loop.update(0, 0, 1, 0, f[0] > 0 ? -1 : 1);
            loop.update(0, 1, 0, 1, 0);
            due("far out", loop.rank(0), FAR * (f[0] + f[1]));
            loop.start(1000000, -1000000);
            due("at the ends of start", loop.rank(0), 1000000L * (f[0] - f[1]));
            loop.start(0, 0);
            due("at 0", loop.rank(0), 0);
        }
    }

    private static void budgetAroundZero() {
        Checks.sentence("19: rank(0) - floor(0) + 1, or 0 if that is negative");
        int[] floors = {-99, -1, 0, 1, 99};
        for (int floor : floors) {
            CountedLoop loop = countdown(floor);
            due("floor", loop.floor(0), floor);
            for (int above = -3; above <= 3; above++) {
                loop.start(floor + above, 0);
                due("rank - floor = " + above, loop.budget(), above < 0 ? 0 : above + 1);
            }
        }
        CountedLoop loop = countdown(0);
        loop.start(2, 0);
        for (int more = 3; more > 0; more--) {
            due("before", loop.budget(), more);
            due("it fires", loop.fire(0), true);
        }
        due("in the end", loop.budget(), 0);
        due("it fires no more", loop.fire(0), false);
    }

    private static void budgetOfARoundedFloor() {
        Checks.sentence("19: rank(0) - floor(0) + 1 (with a floor that was rounded up)");
        CountedLoop loop = loopWith(-3, 0, -10);
        loop.update(0, 0, 1, 0, -1);
        int[][] pairs = {{2, 0}, {3, 0}, {4, 1}, {5, 2}};
        for (int[] p : pairs) {
            loop.start(p[0], 0);
            due("3x >= 10 at " + p[0], loop.budget(), p[1]);
        }
        CountedLoop below = loopWith(-3, 0, 10);
        below.update(0, 0, 1, 0, -1);
        int[][] others = {{-5, 0}, {-4, 0}, {-3, 1}, {-2, 2}};
        for (int[] p : others) {
            below.start(p[0], 0);
            due("3x >= -10 at " + p[0], below.budget(), p[1]);
        }
    }

    private static void budgetOfEmptyGuards() {
        Checks.sentence("19: rank(0) - floor(0) + 1 (the floor is 0 when all are empty)");
        CountedLoop loop = loopWith(0, 0, -1);
        int[][] pairs = {{-1000000, 0}, {-2, 0}, {-1, 0}, {0, 1}, {1, 2}, {1000000, 1000001}};
        for (int[] p : pairs) {
            loop.start(p[0], 50);
            due("x = " + p[0], loop.budget(), p[1]);
            due("it does not fire", loop.fire(0), false);
        }
        Checks.addStep(loop, -1, 0, -7);
        loop.update(1, 0, 1, 0, -1);
        loop.start(9, 0);
        due("with one that is not empty its floor counts", loop.budget(), 3);
    }

    private static void budgetFarOut() {
        Checks.sentence("19: how many more can be fired at most (far out)");
        CountedLoop loop = farLoop();
        loop.guard(0, -4, -3, 99);
        loop.update(0, 0, 1, 0, -1);
        loop.update(0, 1, 0, 1, 0);
        due("above", loop.budget(), 7 * FAR + 99 + 1);
        CountedLoop below = farLoop();
        below.guard(0, 4, 3, 99);
        below.update(0, 0, 1, 0, 1);
        below.update(0, 1, 0, 1, 0);
        due("rank", below.rank(0), -7 * FAR);
        due("below", below.budget(), 0);
    }

    private static void budgetOtherwise() {
        Checks.sentence("19: When the loop is proven by exactly one level .. Otherwise NONE");
        due("no level, proven", new CountedLoop().budget(), LoopRanker.NONE);
        due("no level, not proven", loopWith().budget(), LoopRanker.NONE);
        CountedLoop loop = countdown(0);
        due("one level, proven", loop.budget(), 1);
        loop.transition();
        due("one level, not proven", loop.budget(), LoopRanker.NONE);
        for (int count = 2; count <= 6; count++) due(count + " levels", ladder(count).budget(), LoopRanker.NONE);
        loop.remove(1);
        due("one level again", loop.budget(), 1);
        loop.remove(0);
        due("no level again", loop.budget(), LoopRanker.NONE);
    }
}
