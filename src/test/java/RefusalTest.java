import java.util.ArrayList;
import java.util.List;
import java.util.function.Supplier;
import java.util.function.ToLongFunction;

/**
 * "A call that is refused changes nothing.": each call that can be refused, for each reason, in several states. It
 * answers as the document says, every question is answered as before, and what is done next goes as if it had not been.
 */
public final class RefusalTest {
    private static final int LEAST = Checks.LEAST;
    private static final int MOST = Checks.MOST;
    private static final int[] NO_VARIABLE = {-1, 2, LEAST, MOST};

    /** A call and what it answers when it is refused, a boolean as 1 or 0. */
    private record Refusal(String name, ToLongFunction<CountedLoop> call, long answer) { }

    public static void main(String[] args) {
        everyReason("a new object", CountedLoop::new, 0);
        everyReason("a busy loop", RefusalTest::busyLoop, 6);
        everyReason("a proven loop", RefusalTest::provenLoop, 2);
        everyReason("an empty guard", RefusalTest::emptyLoop, 1);
        everyReason("places that were used before", RefusalTest::usedLoop, 3);
        everyReason("far out", RefusalTest::farLoop, 5);
        sixAreThere();
        fourAreThere();
        guardDoesNotHold();
        wouldBeTooFar();
        Checks.finish("RefusalTest");
    }

    private static void everyReason(String state, Supplier<CountedLoop> scene, int count) {
        Checks.due(state + ": transitions", scene.get().transitions(), count);
        noSuchTransition(state, scene, count);
        startOutOfRange(state, scene);
        noSuchLevelOrVariable(state, scene);
        if (count == 0) return;
        guardOutOfRange(state, scene, count - 1);
        updateOutOfRange(state, scene, count - 1);
        greatestOutOfRange(state, scene, count - 1);
        holdsOutOfRange(state, scene, count - 1);
    }

    private static void noSuchTransition(String state, Supplier<CountedLoop> scene, int count) {
        Checks.sentence(state + ": no such transition");
        List<Refusal> refusals = new ArrayList<>();
        int[] outside = {-1, count, count + 1, LEAST, MOST};
        for (int t : outside) {
            refusals.add(new Refusal("guard " + t, loop -> loop.guard(t, 1, 0, -50), -1));
            refusals.add(new Refusal("update x " + t, loop -> bit(loop.update(t, 0, 0, 0, 1)), 0));
            refusals.add(new Refusal("update y " + t, loop -> bit(loop.update(t, 1, 0, 0, 1)), 0));
            refusals.add(new Refusal("remove " + t, loop -> bit(loop.remove(t)), 0));
            refusals.add(new Refusal("greatest " + t, loop -> loop.greatest(t, 1, 0), LoopRanker.NO_BOUND));
            refusals.add(new Refusal("holds " + t, loop -> bit(loop.holds(t, 1, 0, 0)), 0));
            refusals.add(new Refusal("levelOf " + t, loop -> loop.levelOf(t), -1));
            refusals.add(new Refusal("fire " + t, loop -> bit(loop.fire(t)), 0));
        }
        refuse(scene, refusals);
    }

    private static void startOutOfRange(String state, Supplier<CountedLoop> scene) {
        Checks.sentence(state + ": 14, one of them is not -1000000 .. 1000000");
        List<Refusal> refusals = new ArrayList<>();
        int[] outside = {-1000001, 1000001, LEAST, MOST};
        for (int far : outside) {
            refusals.add(new Refusal("start x = " + far, loop -> bit(loop.start(far, 1)), 0));
            refusals.add(new Refusal("start y = " + far, loop -> bit(loop.start(1, far)), 0));
            refusals.add(new Refusal("start both = " + far, loop -> bit(loop.start(far, far)), 0));
        }
        refuse(scene, refusals);
    }

    private static void noSuchLevelOrVariable(String state, Supplier<CountedLoop> scene) {
        Checks.sentence(state + ": no such level or variable");
        List<Refusal> refusals = new ArrayList<>();
        int[] noLevel = {-1, 6, LEAST, MOST};
        for (int level : noLevel) {
            refusals.add(new Refusal("coefficient of level " + level, loop -> loop.coefficient(level, 0), 0));
            refusals.add(new Refusal("floor of level " + level, loop -> loop.floor(level), LoopRanker.NO_BOUND));
            refusals.add(new Refusal("rank of level " + level, loop -> loop.rank(level), LoopRanker.NO_BOUND));
        }
        for (int variable : NO_VARIABLE) {
            refusals.add(new Refusal("coefficient " + variable, loop -> loop.coefficient(0, variable), 0));
            refusals.add(new Refusal("value " + variable, loop -> loop.value(variable), 0));
        }
        refuse(scene, refusals);
    }

    private static void guardOutOfRange(String state, Supplier<CountedLoop> scene, int t) {
        Checks.sentence(state + ": 3, p, q or r is out of its range");
        List<Refusal> refusals = new ArrayList<>();
        int[] outside = {-10, 10, LEAST, MOST};
        for (int p : outside) {
            refusals.add(new Refusal("p = " + p, loop -> loop.guard(t, p, 0, -50), -1));
            refusals.add(new Refusal("q = " + p, loop -> loop.guard(t, 0, p, -50), -1));
        }
        int[] outsideR = {-100, 100, LEAST, MOST};
        for (int r : outsideR) {
            refusals.add(new Refusal("r = " + r, loop -> loop.guard(t, 1, 0, r), -1));
            refusals.add(new Refusal("r = " + r + ", p and q both 0", loop -> loop.guard(t, 0, 0, r), -1));
        }
        refuse(scene, refusals);
    }

    private static void updateOutOfRange(String state, Supplier<CountedLoop> scene, int t) {
        Checks.sentence(state + ": 4, no such variable, |a| or |b| is above 3, or |c| above 20");
        List<Refusal> refusals = new ArrayList<>();
        for (int variable : NO_VARIABLE) {
            refusals.add(new Refusal("variable " + variable, loop -> bit(loop.update(t, variable, 0, 0, 1)), 0));
        }
        int[] outside = {-4, 4, LEAST, MOST};
        int[] outsideC = {-21, 21, LEAST, MOST};
        for (int variable = 0; variable <= 1; variable++) {
            int of = variable;
            for (int a : outside) {
                refusals.add(new Refusal("a = " + a, loop -> bit(loop.update(t, of, a, 0, 1)), 0));
                refusals.add(new Refusal("b = " + a, loop -> bit(loop.update(t, of, 0, a, 1)), 0));
            }
            for (int c : outsideC) {
                refusals.add(new Refusal("c = " + c, loop -> bit(loop.update(t, of, 0, 0, c)), 0));
            }
        }
        refuse(scene, refusals);
    }

    private static void greatestOutOfRange(String state, Supplier<CountedLoop> scene, int t) {
        Checks.sentence(state + ": 7, |u| or |v| is above 60");
        List<Refusal> refusals = new ArrayList<>();
        int[] outside = {-61, 61, LEAST, MOST};
        for (int u : outside) {
            refusals.add(new Refusal("u = " + u, loop -> loop.greatest(t, u, 0), LoopRanker.NO_BOUND));
            refusals.add(new Refusal("v = " + u, loop -> loop.greatest(t, 0, u), LoopRanker.NO_BOUND));
        }
        refuse(scene, refusals);
    }

    private static void holdsOutOfRange(String state, Supplier<CountedLoop> scene, int t) {
        Checks.sentence(state + ": 8, u or v is not -4 .. 4, both are 0, or what is none of these");
        List<Refusal> refusals = new ArrayList<>();
        int[] outside = {-5, 5, LEAST, MOST};
        for (int u : outside) {
            refusals.add(new Refusal("u = " + u, loop -> bit(loop.holds(t, u, 0, 0)), 0));
            refusals.add(new Refusal("v = " + u, loop -> bit(loop.holds(t, 0, u, 2)), 0));
        }
        refusals.add(new Refusal("both 0", loop -> bit(loop.holds(t, 0, 0, 0)), 0));
        int[] outsideWhat = {-1, 3, LEAST, MOST};
        for (int what : outsideWhat) {
            refusals.add(new Refusal("what = " + what, loop -> bit(loop.holds(t, 1, 0, what)), 0));
        }
        refuse(scene, refusals);
    }

    private static void sixAreThere() {
        Checks.sentence("2, there are six");
        refuse(RefusalTest::busyLoop, List.of(new Refusal("transition", CountedLoop::transition, -1)));
    }

    private static void fourAreThere() {
        Checks.sentence("3, it has four");
        List<Refusal> refusals = new ArrayList<>();
        int[][] rows = {{1, 0, -50}, {0, 0, -1}, {0, 0, 0}, {-1, 0, 3}};
        for (int[] row : rows) {
            refusals.add(new Refusal("a fifth", loop -> loop.guard(0, row[0], row[1], row[2]), -1));
        }
        refuse(RefusalTest::busyLoop, refusals);
    }

    private static void guardDoesNotHold() {
        Checks.sentence("15, its guard does not hold");
        refuse(RefusalTest::busyLoop, List.of(
                new Refusal("one row does not hold", loop -> bit(loop.fire(2)), 0),
                new Refusal("an empty guard", loop -> bit(loop.fire(1)), 0)));
        refuse(RefusalTest::emptyLoop, List.of(new Refusal("an empty guard", loop -> bit(loop.fire(0)), 0)));
    }

    private static void wouldBeTooFar() {
        Checks.sentence("15, x or y would not be -1000000000000 .. 1000000000000");
        refuse(RefusalTest::farLoop, List.of(
                new Refusal("x too great", loop -> bit(loop.fire(1)), 0),
                new Refusal("y too small", loop -> bit(loop.fire(2)), 0),
                new Refusal("both", loop -> bit(loop.fire(3)), 0)));
        Checks.due("one that is not", bit(farLoop().fire(4)), 1);
    }

    private static long bit(boolean answer) {
        return answer ? 1 : 0;
    }

    private static void refuse(Supplier<CountedLoop> scene, List<Refusal> refusals) {
        CountedLoop twin = scene.get();
        String before = answers(twin);
        String future = future(twin);
        for (Refusal refusal : refusals) {
            CountedLoop asked = scene.get();
            answers(asked);
            dueRefused(refusal, asked, before, future);
            // Nothing was asked of this one yet, so nothing is known that could hide a change.
            dueRefused(refusal, scene.get(), before, future);
        }
        CountedLoop all = scene.get();
        for (Refusal refusal : refusals) Checks.due(refusal.name, refusal.call.applyAsLong(all), refusal.answer);
        Checks.due("answers after all of them", answers(all), before);
        Checks.due("what follows all of them", future(all), future);
    }

    private static void dueRefused(Refusal refusal, CountedLoop loop, String before, String future) {
        Checks.due(refusal.name, refusal.call.applyAsLong(loop), refusal.answer);
        Checks.due("answers after " + refusal.name, answers(loop), before);
        Checks.due("what follows " + refusal.name, future(loop), future);
    }

    /** The answers of all questions, which change nothing themselves. */
    private static String answers(CountedLoop loop) {
        int from = loop.story().length();
        loop.transitions();
        loop.levels();
        loop.proven();
        loop.budget();
        loop.fired();
        Checks.place(loop);
        for (int i = 0; i < 6; i++) {
            loop.levelOf(i);
            Checks.function(loop, i);
            loop.floor(i);
            loop.rank(i);
            loop.greatest(i, 1, 0);
            loop.greatest(i, -1, 0);
            loop.greatest(i, 0, 1);
            loop.greatest(i, 3, -2);
            Checks.kinds(loop, i, 1, 0);
            Checks.kinds(loop, i, 0, 1);
            Checks.kinds(loop, i, -2, 3);
        }
        return loop.story().substring(from);
    }

    /** What calls that change something answer, and what they lead to. */
    private static String future(CountedLoop loop) {
        int from = loop.story().length();
        fireAll(loop);
        for (int t = 0; t < 6; t++) loop.guard(t, 0, 0, 99);
        while (loop.transition() >= 0) { }
        loop.start(4, 9);
        fireAll(loop);
        loop.remove(0);
        loop.proven();
        loop.floor(0);
        fireAll(loop);
        return loop.story().substring(from);
    }

    private static void fireAll(CountedLoop loop) {
        for (int t = 0; t < 6; t++) {
            loop.fire(t);
            Checks.place(loop);
        }
        loop.fired();
    }

    /** Six transitions, the first with four inequalities; two levels, some left; the run has begun. */
    private static CountedLoop busyLoop() {
        CountedLoop loop = new CountedLoop();
        Checks.addStep(loop, -1, 0, 0, 1, 0, 90, 0, -1, 50, 0, 1, 95);
        loop.update(0, 0, 1, 0, -1);
        Checks.addStep(loop, 1, 1, -1, -1, -1, 0);
        loop.update(1, 0, 3, -2, 4);
        Checks.addStep(loop, 0, -1, -30, -2, 1, 7);
        loop.update(2, 1, 0, 1, -1);
        loop.transition();
        Checks.addStep(loop, -3, 0, -4);
        loop.update(4, 0, 1, 0, -2);
        Checks.addStep(loop, -1, 0, 40, 1, 0, 60);
        loop.start(9, 5);
        loop.fire(0);
        loop.fire(0);
        loop.fire(4);
        return loop;
    }

    /** Proven by one level, with steps to go. */
    private static CountedLoop provenLoop() {
        CountedLoop loop = new CountedLoop();
        Checks.addStep(loop, -3, -1, -4);
        loop.update(0, 0, 1, 0, -1);
        Checks.addStep(loop, -3, -1, 8, 1, 0, 70);
        loop.update(1, 1, 0, 1, -5);
        loop.start(20, 11);
        loop.fire(1);
        return loop;
    }

    private static CountedLoop emptyLoop() {
        CountedLoop loop = Checks.loopWith(1, 0, 3, -2, 0, -7);
        loop.update(0, 0, 2, 1, 5);
        loop.start(6, -6);
        return loop;
    }

    /** Three transitions, where behind them there were others. */
    private static CountedLoop usedLoop() {
        CountedLoop loop = new CountedLoop();
        for (int t = 0; t < 6; t++) {
            Checks.addStep(loop, -1, -t, 5 * t, 1, 0, 80);
            loop.update(t, 0, 1, 0, -1 - t);
        }
        for (int t = 5; t >= 1; t -= 2) loop.remove(t);
        loop.remove(0);
        loop.transition();
        loop.start(3, 3);
        loop.fire(0);
        return loop;
    }

    /** x is 10 to the 12 and y is -10 to the 12. */
    private static CountedLoop farLoop() {
        CountedLoop loop = new CountedLoop();
        for (int t = 0; t < 5; t++) loop.transition();
        loop.start(1000000, -1000000);
        for (int i = 0; i < 6; i++) {
            loop.update(0, 0, 2, 0, 0);
            loop.update(0, 1, 0, 2, 0);
            loop.fire(0);
            loop.update(0, 0, 3, -2, 0);
            loop.update(0, 1, -2, 3, 0);
            loop.fire(0);
        }
        loop.guard(0, -1, 0, 0);
        loop.update(1, 0, 1, 0, 1);
        loop.update(1, 1, 0, 1, 1);
        loop.update(2, 0, 1, 0, -1);
        loop.update(2, 1, 0, 1, -1);
        loop.update(3, 0, 3, -3, 20);
        loop.update(3, 1, -3, 3, -20);
        loop.update(4, 0, 0, 1, 0);
        loop.update(4, 1, 1, 0, 0);
        return loop;
    }
}
