import java.lang.reflect.Constructor;
import java.lang.reflect.Field;
import java.lang.reflect.Method;
import java.lang.reflect.Modifier;
import java.util.ArrayList;
import java.util.Arrays;
import java.util.List;
import java.util.Set;
import java.util.TreeSet;

/** The public face is the document's and nothing beside it is visible (rules 1, 2 and 5). */
public final class FaceTest {
    private static final List<String> FACE = Arrays.asList(
            "public LoopRanker()",
            "public int LoopRanker.transition()",
            "public int LoopRanker.guard(int,int,int,int)",
            "public boolean LoopRanker.update(int,int,int,int,int)",
            "public boolean LoopRanker.remove(int)",
            "public int LoopRanker.transitions()",
            "public long LoopRanker.greatest(int,int,int)",
            "public boolean LoopRanker.holds(int,int,int,int)",
            "public int LoopRanker.levels()",
            "public boolean LoopRanker.proven()",
            "public int LoopRanker.levelOf(int)",
            "public int LoopRanker.coefficient(int,int)",
            "public long LoopRanker.floor(int)",
            "public boolean LoopRanker.start(int,int)",
            "public boolean LoopRanker.fire(int)",
            "public long LoopRanker.value(int)",
            "public int LoopRanker.fired()",
            "public long LoopRanker.rank(int)",
            "public long LoopRanker.budget()",
            "public static final int LoopRanker.NONE",
            "public static final long LoopRanker.NO_BOUND",
            "public static final long LoopRanker.EMPTY");

    public static void main(String[] args) {
        List<String> faults = new ArrayList<>();
        compareFace(faults);
        checkStaticFields(LoopRanker.class, faults);
        checkInnerClasses(faults);
        if (LoopRanker.NONE != -1) faults.add("NONE is " + LoopRanker.NONE);
        if (LoopRanker.NO_BOUND != 4611686018427387904L) faults.add("NO_BOUND is " + LoopRanker.NO_BOUND);
        if (LoopRanker.EMPTY != -4611686018427387904L) faults.add("EMPTY is " + LoopRanker.EMPTY);
        for (String fault : faults) System.out.println(fault);
        System.out.println("FaceTest: " + faults.size() + " faults");
        if (!faults.isEmpty()) System.exit(1);
    }

    private static void compareFace(List<String> faults) {
        Class<?> face = LoopRanker.class;
        if (!Modifier.isPublic(face.getModifiers()) || !Modifier.isFinal(face.getModifiers())) {
            faults.add("the class is not public and final");
        }
        Set<String> visible = new TreeSet<>();
        for (Constructor<?> c : face.getDeclaredConstructors()) {
            if (!Modifier.isPrivate(c.getModifiers())) visible.add(c.toString());
        }
        for (Method m : face.getDeclaredMethods()) {
            if (!Modifier.isPrivate(m.getModifiers())) visible.add(m.toString());
        }
        for (Field f : face.getDeclaredFields()) {
            if (!Modifier.isPrivate(f.getModifiers())) visible.add(f.toString());
        }
        for (String member : visible) {
            if (!FACE.contains(member)) faults.add("visible beyond the face: " + member);
        }
        for (String member : FACE) {
            if (!visible.contains(member)) faults.add("missing from the face: " + member);
        }
    }

    private static void checkInnerClasses(List<String> faults) {
        Set<String> publicNames = new TreeSet<>();
        for (Method m : LoopRanker.class.getDeclaredMethods()) {
            if (Modifier.isPublic(m.getModifiers())) publicNames.add(m.getName());
        }
        for (Class<?> inner : LoopRanker.class.getDeclaredClasses()) {
            int modifiers = inner.getModifiers();
            if (!Modifier.isStatic(modifiers) || Modifier.isPublic(modifiers) || Modifier.isProtected(modifiers)) {
                faults.add("not a hidden static class: " + inner);
            }
            checkStaticFields(inner, faults);
            for (Method m : inner.getDeclaredMethods()) {
                if (publicNames.contains(m.getName())) faults.add("bears the name of a public method: " + m);
            }
        }
        for (Method m : LoopRanker.class.getDeclaredMethods()) {
            if (!Modifier.isPublic(m.getModifiers()) && publicNames.contains(m.getName())) {
                faults.add("bears the name of a public method: " + m);
            }
        }
    }

    private static void checkStaticFields(Class<?> owner, List<String> faults) {
        for (Field f : owner.getDeclaredFields()) {
            if (Modifier.isStatic(f.getModifiers()) && !Modifier.isFinal(f.getModifiers())) {
                faults.add("a static field that is not final: " + f);
            }
        }
    }
}
