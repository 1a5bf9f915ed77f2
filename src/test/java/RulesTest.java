import java.io.IOException;
import java.nio.file.Files;
import java.nio.file.Path;
import java.util.ArrayList;
import java.util.List;
import java.util.regex.Matcher;
import java.util.regex.Pattern;

/** What LANGUAGE.md says that can be seen in the program's text; FaceTest sees to its members. */
public final class RulesTest {
    private static final Path PROGRAM = Path.of("src/main/java/LoopRanker.java");
    private static final Pattern METHOD =
            Pattern.compile("(?m)^( +)(?:public|private)(?: static)?(?: [\\w\\[\\]]+)? \\w+\\(([^)]*)\\) \\{$");
    private static final List<String> faults = new ArrayList<>();

    public static void main(String[] args) throws IOException {
        String text = withoutComments(Files.readString(PROGRAM));
        refuse(text, 1, "\\b(package|protected)\\b");
        refuse(text, 2, "->|::");
        refuse(text, 3, "\\b(double|float|Object|Map|Set)\\b");
        refuse(text, 4, "\\bimport\\b|\\bjava\\.");
        refuse(text, 4, "\\b(?!Math\\.(abs|max|min|floorDiv)\\b|Step\\.[A-Z])[A-Z]\\w*\\.\\w+");
        refuse(text, 5, "(?m)^ *static \\{");
        refuse(text, 6, "\\b(throw|throws|try|catch|finally|synchronized|assert|equals|hashCode|toString)\\b");
        refuse(text, 9, "while \\(true\\)|for \\(;;\\)");
        refuse(text, 13, "\\b(System|Thread|Random|Runtime)\\b");
        atMost(11, "classes", count(text, "\\b(class|interface|enum|record) [A-Z]"), 12);
        atMost(11, "fields of one class beside its constants", mostFields(text), 20);
        checkMethods(text);
        for (String fault : faults) System.out.println(fault);
        System.out.println("RulesTest: " + faults.size() + " faults");
        if (!faults.isEmpty()) System.exit(1);
    }

    private static String withoutComments(String text) {
        return text.replaceAll("(?s)/\\*.*?\\*/", "").replaceAll("//[^\n]*", "");
    }

    private static void refuse(String text, int rule, String pattern) {
        Matcher found = Pattern.compile(pattern).matcher(text);
        while (found.find()) faults.add("rule " + rule + ": " + found.group());
    }

    private static void atMost(int rule, String what, int number, int limit) {
        if (number > limit) faults.add("rule " + rule + ": " + number + " " + what + ", at most " + limit + " are due");
    }

    private static int count(String text, String pattern) {
        return (int) Pattern.compile(pattern).matcher(text).results().count();
    }

    private static int mostFields(String text) {
        int most = 0;
        for (String part : text.split("\\bclass ")) {
            most = Math.max(most, count(part, "(?m)^ +private (?!static)[^(\n]*;$"));
        }
        return most;
    }

    private static void checkMethods(String text) {
        Matcher method = METHOD.matcher(text);
        int methods = 0;
        while (method.find()) {
            methods++;
            String end = "\n" + method.group(1) + "}\n";
            String body = text.substring(method.start(), text.indexOf(end, method.start()));
            atMost(11, "lines: " + method.group().trim(), count(body, "\n") + 2, 60);
            atMost(11, "parameters: " + method.group().trim(), count(method.group(2), ",") + 1, 7);
        }
        if (methods < 20) faults.add("only " + methods + " methods were found to look at");
    }
}
