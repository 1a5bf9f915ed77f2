/**
 * A LoopRanker whose calls are counted and written down. The document promises nothing after an object's 512th call,
 * so a test that makes more asks for too much and is stopped.
 */
final class CountedLoop {
    private static final int MOST_CALLS = 512;

    private final LoopRanker loop = new LoopRanker();
    private final StringBuilder story = new StringBuilder();
    private int calls = 0;

    /** All calls so far with their answers, a boolean as 1 or 0. */
    String story() {
        return story.toString();
    }

    int transition() {
        return (int) told("transition", loop.transition());
    }

    int guard(int t, int p, int q, int r) {
        return (int) told("guard", loop.guard(t, p, q, r), t, p, q, r);
    }

    boolean update(int t, int variable, int a, int b, int c) {
        return told("update", loop.update(t, variable, a, b, c) ? 1 : 0, t, variable, a, b, c) == 1;
    }

    boolean remove(int t) {
        return told("remove", loop.remove(t) ? 1 : 0, t) == 1;
    }

    int transitions() {
        return (int) told("transitions", loop.transitions());
    }

    long greatest(int t, int u, int v) {
        return told("greatest", loop.greatest(t, u, v), t, u, v);
    }

    boolean holds(int t, int u, int v, int what) {
        return told("holds", loop.holds(t, u, v, what) ? 1 : 0, t, u, v, what) == 1;
    }

    int levels() {
        return (int) told("levels", loop.levels());
    }

    boolean proven() {
        return told("proven", loop.proven() ? 1 : 0) == 1;
    }

    int levelOf(int t) {
        return (int) told("levelOf", loop.levelOf(t), t);
    }

    int coefficient(int level, int variable) {
        return (int) told("coefficient", loop.coefficient(level, variable), level, variable);
    }

    long floor(int level) {
        return told("floor", loop.floor(level), level);
    }

    boolean start(int x, int y) {
        return told("start", loop.start(x, y) ? 1 : 0, x, y) == 1;
    }

    boolean fire(int t) {
        return told("fire", loop.fire(t) ? 1 : 0, t) == 1;
    }

    long value(int variable) {
        return told("value", loop.value(variable), variable);
    }

    int fired() {
        return (int) told("fired", loop.fired());
    }

    long rank(int level) {
        return told("rank", loop.rank(level), level);
    }

    long budget() {
        return told("budget", loop.budget());
    }

    private long told(String name, long answer, int... arguments) {
        calls++;
        if (calls > MOST_CALLS) {
            throw new IllegalStateException("the test makes more than " + MOST_CALLS + " calls on one object");
        }
        story.append(name).append(java.util.Arrays.toString(arguments)).append(" = ").append(answer).append('\n');
        return answer;
    }
}
