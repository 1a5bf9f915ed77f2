import java.io.IOException;
import java.lang.reflect.Method;
import java.lang.reflect.Modifier;
import java.nio.file.Files;
import java.nio.file.Path;
import java.util.ArrayList;
import java.util.List;
import java.util.Set;
import java.util.TreeSet;
import java.util.regex.Matcher;
import java.util.regex.Pattern;
import java.util.stream.Stream;

/** Makes the calls of README.md's example and looks whether they answer what is written there. */
public final class ReadmeTest {
    private static final Pattern BLOCK = Pattern.compile("(?s)```java\n(.*?)```");
    private static final Pattern CALL =
            Pattern.compile("loop\\.(\\w+)\\(([-0-9, ]*)\\); +// (true|false|-?\\d+|NONE|NO_BOUND|EMPTY): \\S.*");
    private static final String NEW_OBJECT = "LoopRanker loop = new LoopRanker();";
    private static final List<String> faults = new ArrayList<>();

    public static void main(String[] args) throws IOException, ReflectiveOperationException {
        String text = Files.readString(Path.of("README.md"));
        Set<String> called = runExample(exampleLines(text));
        for (Method method : LoopRanker.class.getDeclaredMethods()) {
            boolean told = !Modifier.isPublic(method.getModifiers()) || called.contains(method.getName());
            check("no example calls " + method.getName(), told);
        }
        checkTests(text);
        for (String fault : faults) System.out.println(fault);
        System.out.println("ReadmeTest: " + faults.size() + " faults");
        if (!faults.isEmpty()) System.exit(1);
    }

    private static void check(String fault, boolean holds) {
        if (!holds) faults.add(fault);
    }

    private static List<String> exampleLines(String text) {
        List<String> lines = new ArrayList<>();
        Matcher block = BLOCK.matcher(text);
        while (block.find()) lines.addAll(List.of(block.group(1).split("\n")));
        return lines;
    }

    private static Set<String> runExample(List<String> lines) throws ReflectiveOperationException {
        Set<String> called = new TreeSet<>();
        LoopRanker loop = new LoopRanker();
        check("the example does not begin with " + NEW_OBJECT, !lines.isEmpty() && lines.get(0).equals(NEW_OBJECT));
        for (int i = 1; i < lines.size(); i++) {
            Matcher call = CALL.matcher(lines.get(i));
            if (!call.matches()) {
                faults.add("not a call with its answer: " + lines.get(i));
                continue;
            }
            called.add(call.group(1));
            String got = answer(loop, call.group(1), numbers(call.group(2)));
            check(lines.get(i) + " answered " + got, got.equals(spelled(call.group(3))));
        }
        return called;
    }

    private static Object[] numbers(String list) {
        return Stream.of(list.split(",")).map(String::trim).filter(s -> !s.isEmpty()).map(Integer::valueOf).toArray();
    }

    private static String answer(LoopRanker loop, String name, Object[] numbers) throws ReflectiveOperationException {
        for (Method method : LoopRanker.class.getMethods()) {
            if (method.getName().equals(name) && method.getParameterCount() == numbers.length) {
                return String.valueOf(method.invoke(loop, numbers));
            }
        }
        return "nothing, there is no such call";
    }

    private static String spelled(String answer) throws ReflectiveOperationException {
        boolean constant = Character.isUpperCase(answer.charAt(0));
        return constant ? String.valueOf(LoopRanker.class.getField(answer).get(null)) : answer;
    }

    private static void checkTests(String text) throws IOException {
        try (Stream<Path> files = Files.list(Path.of("src/test/java"))) {
            for (Path file : files.toList()) {
                String name = file.getFileName().toString().replace(".java", "");
                check(name + " is not named", text.contains("`" + name + "`"));
            }
        }
        check(".ci/run cannot be run", text.contains("\n.ci/run\n") && Files.isExecutable(Path.of(".ci/run")));
    }
}
