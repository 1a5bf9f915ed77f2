/**
 * Looks for a proof that a loop over two whole numbers ends: functions, one behind the other, that
 * steps lower and that cannot fall for ever; and runs the loop.
 */
public final class LoopRanker {
    /** There is none. */
    public static final int NONE = -1;
    /** There is no greatest value, or no such level. */
    public static final long NO_BOUND = 1L << 62;
    /** The guard is empty. */
    public static final long EMPTY = -(1L << 62);

    private static final int MOST_STEPS = 6;
    private static final int MOST_ROWS = 4;
    private static final int ROW_FACTOR_LIMIT = 9;
    private static final int ROW_RIGHT_LIMIT = 99;
    private static final int UPDATE_FACTOR_LIMIT = 3;
    private static final int UPDATE_CONSTANT_LIMIT = 20;
    private static final int FUNCTION_LIMIT = 4;
    private static final int FUNCTION_COUNT = 80;
    private static final int ASKED_FACTOR_LIMIT = 60;
    private static final int START_LIMIT = 1000000;
    private static final long VALUE_LIMIT = 1000000000000L;

    private final Step[] steps;
    private final Proof proof;
    private int stepCount;
    private long x;
    private long y;
    private int firedCount;

    public LoopRanker() {
        steps = new Step[MOST_STEPS];
        for (int t = 0; t < MOST_STEPS; t++) {
            steps[t] = new Step();
        }
        proof = new Proof();
        stepCount = 0;
        x = 0;
        y = 0;
        firedCount = 0;
    }

    public int transition() {
        if (stepCount >= MOST_STEPS) {
            return NONE;
        }
        // The place may hold a step that was removed before.
        steps[stepCount].reset();
        stepCount++;
        proof.fresh = false;
        return stepCount - 1;
    }

    public int guard(int t, int p, int q, int r) {
        if (!isStep(t) || !isWithin(p, ROW_FACTOR_LIMIT) || !isWithin(q, ROW_FACTOR_LIMIT)
                || !isWithin(r, ROW_RIGHT_LIMIT) || steps[t].guard.size >= MOST_ROWS) {
            return NONE;
        }
        steps[t].addRow(p, q, r);
        proof.fresh = false;
        return steps[t].guard.size;
    }

    public boolean update(int t, int variable, int a, int b, int c) {
        if (!isStep(t) || !isVariable(variable) || !isWithin(a, UPDATE_FACTOR_LIMIT)
                || !isWithin(b, UPDATE_FACTOR_LIMIT) || !isWithin(c, UPDATE_CONSTANT_LIMIT)) {
            return false;
        }
        steps[t].setRule(variable, a, b, c);
        proof.fresh = false;
        return true;
    }

    public boolean remove(int t) {
        if (!isStep(t)) {
            return false;
        }
        Step gone = steps[t];
        for (int i = t + 1; i < stepCount; i++) {
            steps[i - 1] = steps[i];
        }
        stepCount--;
        // Kept behind the others, so that a later transition uses it again.
        steps[stepCount] = gone;
        proof.fresh = false;
        return true;
    }

    public int transitions() {
        return stepCount;
    }

    public long greatest(int t, int u, int v) {
        if (!isStep(t) || !isWithin(u, ASKED_FACTOR_LIMIT) || !isWithin(v, ASKED_FACTOR_LIMIT)) {
            return NO_BOUND;
        }
        Guard guard = steps[t].guard;
        if (guard.empty) {
            return EMPTY;
        }
        guard.maximise(u, v);
        return guard.maximumRoundedDown();
    }

    public boolean holds(int t, int u, int v, int what) {
        if (!isStep(t) || !isWithin(u, FUNCTION_LIMIT) || !isWithin(v, FUNCTION_LIMIT)
                || (u == 0 && v == 0)) {
            return false;
        }
        switch (what) {
            case 0:
                return steps[t].changesByAtMost(u, v, 0);
            case 1:
                return steps[t].changesByAtMost(u, v, -1);
            case 2:
                return steps[t].isBounded(u, v);
            default:
                return false;
        }
    }

    public int levels() {
        proof.renew(steps, stepCount);
        return proof.levelCount;
    }

    public boolean proven() {
        proof.renew(steps, stepCount);
        return proof.leftCount == 0;
    }

    public int levelOf(int t) {
        proof.renew(steps, stepCount);
        return isStep(t) ? proof.levelOfStep[t] : NONE;
    }

    public int coefficient(int level, int variable) {
        proof.renew(steps, stepCount);
        if (!proof.hasLevel(level) || !isVariable(variable)) {
            return 0;
        }
        return variable == 0 ? proof.levelU[level] : proof.levelV[level];
    }

    public long floor(int level) {
        proof.renew(steps, stepCount);
        return proof.hasLevel(level) ? proof.levelFloor[level] : NO_BOUND;
    }

    public boolean start(int x, int y) {
        if (!isWithin(x, START_LIMIT) || !isWithin(y, START_LIMIT)) {
            return false;
        }
        this.x = x;
        this.y = y;
        firedCount = 0;
        return true;
    }

    public boolean fire(int t) {
        if (!isStep(t) || !steps[t].guard.allows(x, y)) {
            return false;
        }
        long nextX = steps[t].next(0, x, y);
        long nextY = steps[t].next(1, x, y);
        if (!isWithin(nextX, VALUE_LIMIT) || !isWithin(nextY, VALUE_LIMIT)) {
            return false;
        }
        x = nextX;
        y = nextY;
        firedCount++;
        return true;
    }

    public long value(int variable) {
        if (!isVariable(variable)) {
            return 0;
        }
        return variable == 0 ? x : y;
    }

    public int fired() {
        return firedCount;
    }

    public long rank(int level) {
        proof.renew(steps, stepCount);
        return proof.hasLevel(level) ? proof.functionValue(level, x, y) : NO_BOUND;
    }

    public long budget() {
        proof.renew(steps, stepCount);
        if (proof.leftCount != 0 || proof.levelCount != 1) {
            return NONE;
        }
        return Math.max(0L, proof.functionValue(0, x, y) - proof.levelFloor[0] + 1);
    }

    private boolean isStep(int t) {
        return t >= 0 && t < stepCount;
    }

    private static boolean isVariable(int variable) {
        return variable == 0 || variable == 1;
    }

    // Not by Math.abs, which leaves the least int negative.
    private static boolean isWithin(long number, long limit) {
        return number >= -limit && number <= limit;
    }

    /** The inequalities of a transition, and the greatest value of a * x + b * y at their points. */
    private static final class Guard {
        private final int[] p;
        private final int[] q;
        private final int[] r;
        private int size;
        private boolean empty;
        // The maximum found last is top / bottom; bottom is 0 when there is none, else positive.
        private long top;
        private long bottom;

        private Guard() {
            p = new int[MOST_ROWS];
            q = new int[MOST_ROWS];
            r = new int[MOST_ROWS];
            clear();
        }

        private void clear() {
            size = 0;
            empty = false;
            top = 0;
            bottom = 0;
        }

        private void add(int newP, int newQ, int newR) {
            if (size >= MOST_ROWS) {
                return;
            }
            if (!empty) {
                // The new row leaves no point exactly when the least value of its left side at the
                // points so far, which is -top / bottom, is above its right side.
                maximise(-newP, -newQ);
                empty = bottom != 0 && top < -newR * bottom;
            }
            p[size] = newP;
            q[size] = newQ;
            r[size] = newR;
            size++;
        }

        private boolean allows(long x, long y) {
            for (int i = 0; i < size; i++) {
                if (p[i] * x + q[i] * y > r[i]) {
                    return false;
                }
            }
            return true;
        }

        /**
         * Finds the greatest value of a * x + b * y; only for a guard that is not empty. Each way to
         * write a * x + b * y as rows times numbers that are not negative bounds it from above, and
         * by duality the least such bound is the greatest value. With two variables, ways with at
         * most two rows (that are no multiples of one another) are enough; if there is no way at
         * all, there is no greatest value.
         */
        private void maximise(int a, int b) {
            top = 0;
            bottom = 0;
            if (a == 0 && b == 0) {
                bottom = 1;
                return;
            }
            for (int i = 0; i < size; i++) {
                boundByRow(i, a, b);
                for (int j = i + 1; j < size; j++) {
                    boundByPair(i, j, a, b);
                }
            }
        }

        private void boundByRow(int i, int a, int b) {
            boolean sameDirection = cross(p[i], q[i], a, b) == 0 && p[i] * a + q[i] * b > 0;
            if (sameDirection) {
                lowerTo((long) r[i] * (Math.abs(a) + Math.abs(b)), Math.abs(p[i]) + Math.abs(q[i]));
            }
        }

        private void boundByPair(int i, int j, int a, int b) {
            long both = cross(p[i], q[i], p[j], q[j]);
            long sign = both < 0 ? -1 : 1;
            long timesI = sign * cross(a, b, p[j], q[j]);
            long timesJ = sign * cross(p[i], q[i], a, b);
            if (both != 0 && timesI >= 0 && timesJ >= 0) {
                lowerTo(r[i] * timesI + r[j] * timesJ, sign * both);
            }
        }

        private void lowerTo(long newTop, long newBottom) {
            if (bottom == 0 || newTop * bottom < top * newBottom) {
                top = newTop;
                bottom = newBottom;
            }
        }

        private boolean hasMaximum() {
            return bottom != 0;
        }

        private boolean maximumIsAtMost(long number) {
            return bottom != 0 && top <= number * bottom;
        }

        private long maximumRoundedDown() {
            return bottom == 0 ? NO_BOUND : Math.floorDiv(top, bottom);
        }

        private static long cross(long a, long b, long c, long d) {
            return a * d - b * c;
        }
    }

    /** A transition: its guard, its update, and what each function does on it. */
    private static final class Step {
        private static final int GROWS = 0;
        private static final int DOES_NOT_GROW = 1;
        private static final int IS_REMOVED = 2;

        private final Guard guard;
        // a, b, c for x, then d, e, f for y.
        private final int[] rule;
        // Kept from one proof to the next, because most calls change one transition at most.
        private final int[] kinds;
        private boolean kindsFresh;

        private Step() {
            guard = new Guard();
            rule = new int[6];
            kinds = new int[FUNCTION_COUNT];
            kindsFresh = false;
        }

        private void reset() {
            guard.clear();
            setRule(0, 1, 0, 0);
            setRule(1, 0, 1, 0);
        }

        private void addRow(int p, int q, int r) {
            guard.add(p, q, r);
            kindsFresh = false;
        }

        private void setRule(int variable, int a, int b, int c) {
            int first = variable == 0 ? 0 : 3;
            rule[first] = a;
            rule[first + 1] = b;
            rule[first + 2] = c;
            kindsFresh = false;
        }

        private long next(int variable, long x, long y) {
            int first = variable == 0 ? 0 : 3;
            return rule[first] * x + rule[first + 1] * y + rule[first + 2];
        }

        private boolean changesByAtMost(int u, int v, int most) {
            if (guard.empty) {
                return true;
            }
            guard.maximise(u * rule[0] + v * rule[3] - u, u * rule[1] + v * rule[4] - v);
            return guard.maximumIsAtMost(most - (u * rule[2] + v * rule[5]));
        }

        private boolean isBounded(int u, int v) {
            if (guard.empty) {
                return true;
            }
            guard.maximise(-u, -v);
            return guard.hasMaximum();
        }

        private void findKinds(int[] us, int[] vs) {
            if (kindsFresh) {
                return;
            }
            kindsFresh = true;
            for (int f = 0; f < FUNCTION_COUNT; f++) {
                if (!changesByAtMost(us[f], vs[f], 0)) {
                    kinds[f] = GROWS;
                } else if (changesByAtMost(us[f], vs[f], -1) && isBounded(us[f], vs[f])) {
                    kinds[f] = IS_REMOVED;
                } else {
                    kinds[f] = DOES_NOT_GROW;
                }
            }
        }
    }

    /** The levels, as found for the transitions when they were last looked at. */
    private static final class Proof {
        // All functions, the one that is taken before others first.
        private final int[] us;
        private final int[] vs;
        private final int[] levelU;
        private final int[] levelV;
        private final long[] levelFloor;
        private final int[] levelOfStep;
        private int levelCount;
        private int leftCount;
        private boolean fresh;

        private Proof() {
            us = new int[FUNCTION_COUNT];
            vs = new int[FUNCTION_COUNT];
            levelU = new int[MOST_STEPS];
            levelV = new int[MOST_STEPS];
            levelFloor = new long[MOST_STEPS];
            levelOfStep = new int[MOST_STEPS];
            levelCount = 0;
            leftCount = 0;
            fresh = false;
            listFunctions();
        }

        private void listFunctions() {
            int count = 0;
            for (int sum = 1; sum <= 2 * FUNCTION_LIMIT; sum++) {
                for (int u = FUNCTION_LIMIT; u >= -FUNCTION_LIMIT; u--) {
                    for (int v = FUNCTION_LIMIT; v >= -FUNCTION_LIMIT; v--) {
                        if (Math.abs(u) + Math.abs(v) == sum && count < FUNCTION_COUNT) {
                            us[count] = u;
                            vs[count] = v;
                            count++;
                        }
                    }
                }
            }
        }

        private boolean hasLevel(int level) {
            return level >= 0 && level < levelCount;
        }

        private long functionValue(int level, long x, long y) {
            return levelU[level] * x + levelV[level] * y;
        }

        private void renew(Step[] steps, int stepCount) {
            if (fresh) {
                return;
            }
            fresh = true;
            levelCount = 0;
            leftCount = stepCount;
            for (int t = 0; t < stepCount; t++) {
                levelOfStep[t] = NONE;
                steps[t].findKinds(us, vs);
            }
            for (int level = 0; level < MOST_STEPS && leftCount > 0; level++) {
                int f = bestFunction(steps, stepCount);
                if (f == NONE) {
                    break;
                }
                addLevel(f, steps, stepCount);
            }
        }

        private int bestFunction(Step[] steps, int stepCount) {
            int best = NONE;
            int most = 0;
            for (int f = 0; f < FUNCTION_COUNT; f++) {
                int removed = countRemoved(f, steps, stepCount);
                if (removed > most) {
                    most = removed;
                    best = f;
                }
            }
            return best;
        }

        private int countRemoved(int f, Step[] steps, int stepCount) {
            int removed = 0;
            for (int t = 0; t < stepCount; t++) {
                if (levelOfStep[t] != NONE) {
                    continue;
                }
                if (steps[t].kinds[f] == Step.GROWS) {
                    return 0;
                }
                if (steps[t].kinds[f] == Step.IS_REMOVED) {
                    removed++;
                }
            }
            return removed;
        }

        private void addLevel(int f, Step[] steps, int stepCount) {
            long least = NO_BOUND;
            for (int t = 0; t < stepCount; t++) {
                if (levelOfStep[t] != NONE || steps[t].kinds[f] != Step.IS_REMOVED) {
                    continue;
                }
                levelOfStep[t] = levelCount;
                leftCount--;
                Guard guard = steps[t].guard;
                if (!guard.empty) {
                    guard.maximise(-us[f], -vs[f]);
                    least = Math.min(least, -guard.maximumRoundedDown());
                }
            }
            levelU[levelCount] = us[f];
            levelV[levelCount] = vs[f];
            levelFloor[levelCount] = least == NO_BOUND ? 0 : least;
            levelCount++;
        }
    }
}
