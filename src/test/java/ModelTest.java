import java.util.ArrayList;
import java.util.List;

/** Long mixed runs, each call compared with a plain second program that keeps nothing between calls. */
public final class ModelTest {
    private static final int RUNS = 400;
    private static final int CALLS = 512;

    private static int wrong = 0;
    private static final int[] provenWithLevels = new int[7];
    private static final int[] unprovenWithLevels = new int[7];
    private static int emptyGuards = 0;
    private static int boundedSums = 0;
    private static int unboundedSums = 0;
    private static int firings = 0;

    public static void main(String[] args) {
        for (int run = 0; run < RUNS && wrong < 20; run++) {
            playRun(run);
        }
        System.out.println("proven with 0..6 levels: " + java.util.Arrays.toString(provenWithLevels)
                + ", not proven: " + java.util.Arrays.toString(unprovenWithLevels));
        System.out.println("greatest: empty " + emptyGuards + ", bounded " + boundedSums + ", unbounded "
                + unboundedSums + "; fired " + firings);
        System.out.println("ModelTest: " + wrong + " answers are not as due");
        if (wrong != 0 || isIdle()) System.exit(1);
    }

    /** A comparison that never met the interesting answers would prove nothing. */
    private static boolean isIdle() {
        boolean idle = provenWithLevels[1] < 100 || provenWithLevels[2] < 100 || provenWithLevels[3] < 10
                || unprovenWithLevels[0] < 100 || unprovenWithLevels[1] < 100 || unprovenWithLevels[2] < 10
                || emptyGuards < 100 || boundedSums < 1000 || unboundedSums < 1000 || firings < 1000;
        if (idle) System.out.println("the runs are too plain to compare anything");
        return idle;
    }

    private static void playRun(int run) {
        Dice dice = new Dice(run);
        LoopRanker loop = new LoopRanker();
        Model model = new Model();
        int style = run % 4;
        for (int call = 0; call < CALLS; call++) {
            String name = playCall(dice, loop, model, style);
            if (name != null) {
                wrong++;
                System.out.println("run " + run + ", call " + call + ": " + name);
                return;
            }
        }
    }

    /** Plays one call on both; null if they agree. */
    private static String playCall(Dice dice, LoopRanker loop, Model model, int style) {
        int t = dice.chance(20) ? dice.odd() : dice.below(6);
        int kind = dice.below(100);
        if (kind < 6) return playTransition(dice, loop, model, style);
        if (kind < 16) return playGuard(dice, loop, model, style, t);
        if (kind < 28) return playUpdate(dice, loop, model, style, t);
        if (kind < 31) return compare("remove " + t, loop.remove(t), model.remove(t));
        if (kind < 33) return compare("transitions()", loop.transitions(), model.steps.size());
        if (kind < 43) return playGreatest(dice, loop, model, t);
        if (kind < 51) return playHolds(dice, loop, model, t);
        if (kind < 59) return playStart(dice, loop, model);
        if (kind < 74) return playFire(loop, model, t);
        if (kind < 77) return playValues(dice, loop, model);
        return playProof(dice, loop, model, t);
    }

    /** In most styles the new one gets a guard and an update that a function may fall on. */
    private static String playTransition(Dice dice, LoopRanker loop, Model model, int style) {
        int t = model.transition();
        String fault = compare("transition()", loop.transition(), t);
        if (style == 0 || t < 0 || dice.chance(6)) return fault;
        int dx = dice.between(-2, style == 1 ? 0 : 1);
        int dy = dx < 0 ? dice.between(-1, 1) : dice.between(-2, -1);
        if (fault == null) fault = compare("update x", loop.update(t, 0, 1, 0, dx), model.update(t, 0, 1, 0, dx));
        if (fault == null) fault = compare("update y", loop.update(t, 1, 0, 1, dy), model.update(t, 1, 0, 1, dy));
        int rows = dice.between(1, style);
        for (int i = 0; i < rows && fault == null; i++) {
            int p = dice.between(-2, 0);
            int q = dice.between(-2, p < 0 ? 2 : -1);
            int r = dice.between(-5, 5);
            fault = compare("guard", loop.guard(t, p, q, r), model.guard(t, p, q, r));
        }
        return fault;
    }

    private static String playGuard(Dice dice, LoopRanker loop, Model model, int style, int t) {
        int most = style == 0 ? 9 : style == 3 ? 3 : 1;
        int p = dice.chance(30) ? dice.odd() : dice.between(-most, most);
        int q = dice.chance(30) ? dice.odd() : dice.between(-most, most);
        int r = dice.chance(30) ? dice.odd() : style == 0 ? dice.between(-99, 99) : dice.between(-8, 12);
        String call = "guard(" + t + ", " + p + ", " + q + ", " + r + ")";
        return compare(call, loop.guard(t, p, q, r), model.guard(t, p, q, r));
    }

    private static String playUpdate(Dice dice, LoopRanker loop, Model model, int style, int t) {
        int variable = dice.chance(30) ? dice.odd() : dice.below(2);
        boolean mild = style != 0 && !dice.chance(4);
        int a = dice.chance(40) ? dice.odd() : mild ? (variable == 0 ? 1 : 0) : dice.between(-3, 3);
        int b = dice.chance(40) ? dice.odd() : mild ? (variable == 1 ? 1 : 0) : dice.between(-3, 3);
        int c = dice.chance(40) ? dice.odd() : mild ? dice.between(-3, style == 1 ? 0 : 1) : dice.between(-20, 20);
        String call = "update(" + t + ", " + variable + ", " + a + ", " + b + ", " + c + ")";
        return compare(call, loop.update(t, variable, a, b, c), model.update(t, variable, a, b, c));
    }

    private static String playGreatest(Dice dice, LoopRanker loop, Model model, int t) {
        int most = dice.chance(2) ? 60 : 3;
        int u = dice.chance(30) ? dice.odd() : dice.between(-most, most);
        int v = dice.chance(30) ? dice.odd() : dice.between(-most, most);
        long want = model.greatest(t, u, v);
        if (want == LoopRanker.EMPTY) emptyGuards++;
        else if (want == LoopRanker.NO_BOUND) unboundedSums++;
        else boundedSums++;
        return compare("greatest(" + t + ", " + u + ", " + v + ")", loop.greatest(t, u, v), want);
    }

    private static String playHolds(Dice dice, LoopRanker loop, Model model, int t) {
        int u = dice.chance(30) ? dice.odd() : dice.between(-4, 4);
        int v = dice.chance(30) ? dice.odd() : dice.between(-4, 4);
        int what = dice.chance(30) ? dice.odd() : dice.below(3);
        String call = "holds(" + t + ", " + u + ", " + v + ", " + what + ")";
        return compare(call, loop.holds(t, u, v, what), model.holds(t, u, v, what));
    }

    private static String playStart(Dice dice, LoopRanker loop, Model model) {
        int x = dice.chance(10) ? dice.odd() : dice.chance(3) ? dice.between(-1000001, 1000001) : dice.between(-9, 9);
        int y = dice.chance(10) ? dice.odd() : dice.chance(3) ? dice.between(-1000001, 1000001) : dice.between(-9, 9);
        return compare("start(" + x + ", " + y + ")", loop.start(x, y), model.start(x, y));
    }

    private static String playFire(LoopRanker loop, Model model, int t) {
        boolean want = model.fire(t);
        if (want) firings++;
        return compare("fire(" + t + ")", loop.fire(t), want);
    }

    private static String playValues(Dice dice, LoopRanker loop, Model model) {
        int variable = dice.odd();
        String fault = compare("value(" + variable + ")", loop.value(variable), model.value(variable));
        if (fault == null) fault = compare("value(0)", loop.value(0), model.value(0));
        if (fault == null) fault = compare("value(1)", loop.value(1), model.value(1));
        if (fault == null) fault = compare("fired()", loop.fired(), model.fired);
        return fault;
    }

    private static String playProof(Dice dice, LoopRanker loop, Model model, int t) {
        ModelProof proof = new ModelProof(model);
        int count = proof.functions.size();
        if (proof.left.isEmpty()) provenWithLevels[count]++;
        else unprovenWithLevels[count]++;
        int level = dice.chance(10) ? dice.odd() : dice.below(Math.min(6, count + 1));
        int variable = dice.chance(10) ? dice.odd() : dice.below(2);
        switch (dice.below(7)) {
            case 0:
                return compare("levels()", loop.levels(), count);
            case 1:
                return compare("proven()", loop.proven(), proof.left.isEmpty());
            case 2:
                return compare("levelOf(" + t + ")", loop.levelOf(t), proof.levelOf(t));
            case 3:
                return compare("coefficient(" + level + ", " + variable + ")", loop.coefficient(level, variable),
                        proof.coefficient(level, variable));
            case 4:
                return compare("floor(" + level + ")", loop.floor(level), proof.floor(level));
            case 5:
                return compare("rank(" + level + ")", loop.rank(level), proof.rank(level));
            default:
                return compare("budget()", loop.budget(), proof.budget());
        }
    }

    private static String compare(String call, boolean got, boolean want) {
        return compare(call, got ? 1 : 0, want ? 1 : 0);
    }

    private static String compare(String call, long got, long want) {
        return got == want ? null : call + " answered " + got + ", due is " + want;
    }

    /** The same throws for the same seed, always. */
    private static final class Dice {
        private static final int[] ODD = {Integer.MIN_VALUE, Integer.MAX_VALUE, -1000001, 1000001, -1000000, 1000000,
            -100, -99, -61, -60, -21, -20, -10, -9, -5, -4, -3, -2, -1, 0, 1, 2, 3, 4, 5, 6, 9, 10, 20, 21, 60, 61, 99,
            100};
        private long state;

        Dice(long seed) {
            state = seed * 0x9E3779B97F4A7C15L + 0x1234567L;
        }

        int below(int limit) {
            state = state * 6364136223846793005L + 1442695040888963407L;
            return (int) ((state >>> 33) % limit);
        }

        int between(int least, int most) {
            return least + below(most - least + 1);
        }

        boolean chance(int oneIn) {
            return below(oneIn) == 0;
        }

        int odd() {
            return ODD[below(ODD.length)];
        }
    }

    /** The whole range that a sum takes at the points of a guard, as two fractions. */
    private static final class Range {
        boolean empty = false;
        boolean hasMost = false;
        boolean hasLeast = false;
        long mostTop;
        long mostBottom;
        long leastTop;
        long leastBottom;

        /** Rows over x, y and z with z = u * x + v * y; x and y are eliminated (Fourier-Motzkin). */
        Range(List<int[]> guard, int u, int v) {
            List<long[]> rows = new ArrayList<>();
            for (int[] g : guard) rows.add(new long[] {g[0], g[1], 0, g[2]});
            rows.add(new long[] {-u, -v, 1, 0});
            rows.add(new long[] {u, v, -1, 0});
            rows = eliminate(eliminate(rows, 0), 1);
            for (long[] row : rows) narrow(row[2], row[3]);
            if (hasMost && hasLeast && less(mostTop, mostBottom, leastTop, leastBottom)) empty = true;
        }

        private static List<long[]> eliminate(List<long[]> rows, int column) {
            List<long[]> result = new ArrayList<>();
            for (long[] above : rows) {
                if (above[column] == 0) result.add(above);
                if (above[column] <= 0) continue;
                for (long[] below : rows) {
                    if (below[column] < 0) result.add(combine(above, below, column));
                }
            }
            return result;
        }

        private static long[] combine(long[] above, long[] below, int column) {
            long[] sum = new long[4];
            long divisor = 0;
            for (int i = 0; i < 4; i++) {
                sum[i] = Math.addExact(Math.multiplyExact(above[i], -below[column]),
                        Math.multiplyExact(below[i], above[column]));
                divisor = gcd(divisor, Math.abs(sum[i]));
            }
            for (int i = 0; i < 4 && divisor > 1; i++) sum[i] /= divisor;
            return sum;
        }

        private static long gcd(long a, long b) {
            return b == 0 ? a : gcd(b, a % b);
        }

        private static boolean less(long top, long bottom, long otherTop, long otherBottom) {
            return Math.multiplyExact(top, otherBottom) < Math.multiplyExact(otherTop, bottom);
        }

        private void narrow(long factor, long right) {
            if (factor == 0 && right < 0) empty = true;
            if (factor > 0 && (!hasMost || less(right, factor, mostTop, mostBottom))) {
                hasMost = true;
                mostTop = right;
                mostBottom = factor;
            }
            if (factor < 0 && (!hasLeast || less(leastTop, leastBottom, -right, -factor))) {
                hasLeast = true;
                leastTop = -right;
                leastBottom = -factor;
            }
        }
    }

    private static final class ModelStep {
        final List<int[]> guard = new ArrayList<>();
        int[] toX = {1, 0, 0};
        int[] toY = {0, 1, 0};

        boolean holds(int u, int v, int what) {
            if (what == 2) {
                Range range = new Range(guard, u, v);
                return range.empty || range.hasLeast;
            }
            Range range = new Range(guard, u * toX[0] + v * toY[0] - u, u * toX[1] + v * toY[1] - v);
            long most = (what == 0 ? 0 : -1) - u * toX[2] - v * toY[2];
            return range.empty || (range.hasMost && range.mostTop <= most * range.mostBottom);
        }
    }

    private static final class Model {
        final List<ModelStep> steps = new ArrayList<>();
        long x = 0;
        long y = 0;
        int fired = 0;

        boolean has(int t) {
            return t >= 0 && t < steps.size();
        }

        static boolean in(long number, long limit) {
            return -limit <= number && number <= limit;
        }

        int transition() {
            if (steps.size() == 6) return -1;
            steps.add(new ModelStep());
            return steps.size() - 1;
        }

        int guard(int t, int p, int q, int r) {
            if (!has(t) || steps.get(t).guard.size() == 4 || !in(p, 9) || !in(q, 9) || !in(r, 99)) return -1;
            steps.get(t).guard.add(new int[] {p, q, r});
            return steps.get(t).guard.size();
        }

        boolean update(int t, int variable, int a, int b, int c) {
            if (!has(t) || variable < 0 || variable > 1 || !in(a, 3) || !in(b, 3) || !in(c, 20)) return false;
            if (variable == 0) steps.get(t).toX = new int[] {a, b, c};
            else steps.get(t).toY = new int[] {a, b, c};
            return true;
        }

        boolean remove(int t) {
            if (!has(t)) return false;
            steps.remove(t);
            return true;
        }

        long greatest(int t, int u, int v) {
            if (!has(t) || !in(u, 60) || !in(v, 60)) return 1L << 62;
            Range range = new Range(steps.get(t).guard, u, v);
            if (range.empty) return -(1L << 62);
            return range.hasMost ? Math.floorDiv(range.mostTop, range.mostBottom) : 1L << 62;
        }

        boolean holds(int t, int u, int v, int what) {
            if (!has(t) || !in(u, 4) || !in(v, 4) || (u == 0 && v == 0) || what < 0 || what > 2) return false;
            return steps.get(t).holds(u, v, what);
        }

        boolean start(int newX, int newY) {
            if (!in(newX, 1000000) || !in(newY, 1000000)) return false;
            x = newX;
            y = newY;
            fired = 0;
            return true;
        }

        boolean fire(int t) {
            if (!has(t)) return false;
            ModelStep step = steps.get(t);
            for (int[] g : step.guard) {
                if (g[0] * x + g[1] * y > g[2]) return false;
            }
            long newX = step.toX[0] * x + step.toX[1] * y + step.toX[2];
            long newY = step.toY[0] * x + step.toY[1] * y + step.toY[2];
            if (!in(newX, 1000000000000L) || !in(newY, 1000000000000L)) return false;
            x = newX;
            y = newY;
            fired++;
            return true;
        }

        long value(int variable) {
            return variable == 0 ? x : variable == 1 ? y : 0;
        }
    }

    /** The proof, word for word as the document tells it. */
    private static final class ModelProof {
        final Model model;
        final List<int[]> functions = new ArrayList<>();
        final List<List<Integer>> removed = new ArrayList<>();
        final List<Integer> left = new ArrayList<>();

        ModelProof(Model model) {
            this.model = model;
            for (int t = 0; t < model.steps.size(); t++) left.add(t);
            while (!left.isEmpty() && findLevel()) { }
        }

        private boolean findLevel() {
            int[] best = null;
            List<Integer> bestRemoved = new ArrayList<>();
            for (int u = -4; u <= 4; u++) {
                for (int v = -4; v <= 4; v++) {
                    if ((u == 0 && v == 0) || grows(u, v)) continue;
                    List<Integer> now = new ArrayList<>();
                    for (int t : left) {
                        if (model.holds(t, u, v, 1) && model.holds(t, u, v, 2)) now.add(t);
                    }
                    if (best == null || isBetter(now.size(), u, v, bestRemoved.size(), best)) {
                        best = new int[] {u, v};
                        bestRemoved = now;
                    }
                }
            }
            if (bestRemoved.isEmpty()) return false;
            functions.add(best);
            removed.add(bestRemoved);
            left.removeAll(bestRemoved);
            return true;
        }

        private boolean grows(int u, int v) {
            for (int t : left) {
                if (!model.holds(t, u, v, 0)) return true;
            }
            return false;
        }

        private static boolean isBetter(int count, int u, int v, int bestCount, int[] best) {
            if (count != bestCount) return count > bestCount;
            int sum = Math.abs(u) + Math.abs(v);
            int bestSum = Math.abs(best[0]) + Math.abs(best[1]);
            if (sum != bestSum) return sum < bestSum;
            if (u != best[0]) return u > best[0];
            return v > best[1];
        }

        private boolean has(int level) {
            return level >= 0 && level < functions.size();
        }

        int levelOf(int t) {
            for (int level = 0; level < removed.size(); level++) {
                if (removed.get(level).contains(t)) return level;
            }
            return -1;
        }

        int coefficient(int level, int variable) {
            return has(level) && (variable == 0 || variable == 1) ? functions.get(level)[variable] : 0;
        }

        long floor(int level) {
            if (!has(level)) return 1L << 62;
            int[] f = functions.get(level);
            Long least = null;
            for (int t : removed.get(level)) {
                Range range = new Range(model.steps.get(t).guard, f[0], f[1]);
                if (range.empty) continue;
                long up = -Math.floorDiv(-range.leastTop, range.leastBottom);
                if (least == null || up < least) least = up;
            }
            return least == null ? 0 : least;
        }

        long rank(int level) {
            return has(level) ? functions.get(level)[0] * model.x + functions.get(level)[1] * model.y : 1L << 62;
        }

        long budget() {
            if (!left.isEmpty() || functions.size() != 1) return -1;
            return Math.max(0, rank(0) - floor(0) + 1);
        }
    }
}
