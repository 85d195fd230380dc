import java.io.IOException;
import java.nio.file.Files;
import java.nio.file.Path;
import java.util.ArrayList;
import java.util.List;
import java.util.Set;
import java.util.TreeSet;
import java.util.regex.Matcher;
import java.util.regex.Pattern;

/**
 * Those rules of LANGUAGE.md that the program's text itself shows: what it may not hold (4, 6, 10, 13),
 * how it may recur (8), and how long and how deep it may be (11). Methods of one name count as one here.
 */
public final class LanguageTest {
    private static final Path PROGRAM = Path.of("src", "main", "java", "ReckonBench.java");
    private static final Pattern HEAD =
            Pattern.compile("^( +)((?:(?:public|private|static|final) )*)([\\w\\[\\]]+ )?(\\w+)\\(([^)]*)\\) \\{$");
    private static final Pattern CLASS = Pattern.compile("^ *[\\w ]*\\b(?:class|enum|record|interface) \\w+.*\\{$");
    private static final Pattern LIBRARY = Pattern.compile("\\b([A-Z]\\w*[a-z]\\w*)\\.(\\w+)\\(");
    private static final Set<String> CONTROL = Set.of("if", "for", "while", "switch", "else");
    private static final Set<String> OWN = Set.of("Row", "Kind", "Reckoning", "Sums", "Sorter", "Interval");
    private static final Set<String> LISTED = Set.of(
            "Math.max", "Math.min", "Math.abs", "Long.numberOfLeadingZeros", "System.arraycopy");
    private static final String[] RULED_OUT = {
        "package", "import", "protected", "finally", "synchronized", "assert", "native", "volatile",
    };
    /** The document names no exception, and numbers are reckoned with as bits alone. */
    private static final String[] UNNEEDED = {"throw", "try", "catch", "double", "float"};
    private static final int MOST_PARAMETERS = 7;
    private static final int MOST_LINES = 60;
    private static final int MOST_CLASSES = 12;
    private static final int DEEPEST = 8;

    /** A method (or constructor) as its lines tell it. */
    private record Told(String modifiers, String name, int parameters, List<String> body) {
        boolean calls(String other) {
            Pattern call = Pattern.compile("\\b" + other + "\\(");
            for (String line : body) {
                if (call.matcher(line).find()) {
                    return true;
                }
            }
            return false;
        }
    }

    public static void main(String[] args) throws IOException {
        List<String> lines = withoutComments(Files.readAllLines(PROGRAM));
        List<Told> methods = methodsOf(lines);
        Checks.due("methods are found in the text", methods.size() > 18 ? 1 : 0, 1);
        ruledOut(lines);
        library(lines);
        recursion(methods);
        sizes(lines, methods);
        Checks.end();
    }

    private static List<String> withoutComments(List<String> lines) {
        List<String> code = new ArrayList<>();
        for (String line : lines) {
            String bare = line.strip();
            if (!bare.startsWith("/*") && !bare.startsWith("*")) {
                int comment = line.indexOf("//");
                code.add(comment < 0 ? line : line.substring(0, comment));
            }
        }
        return code;
    }

    private static List<Told> methodsOf(List<String> lines) {
        List<Told> methods = new ArrayList<>();
        for (int at = 0; at < lines.size(); at++) {
            Matcher head = HEAD.matcher(lines.get(at));
            if (!head.matches() || CONTROL.contains(head.group(4))) {
                continue;
            }
            int end = at + 1;
            while (end < lines.size() && !lines.get(end).equals(head.group(1) + "}")) {
                end++;
            }
            int parameters = head.group(5).isEmpty() ? 0 : head.group(5).split(",").length;
            methods.add(new Told(head.group(2), head.group(4), parameters, lines.subList(at + 1, end)));
        }
        return methods;
    }

    private static void ruledOut(List<String> lines) {
        String text = String.join("\n", lines);
        List<String> words = new ArrayList<>(List.of(RULED_OUT));
        words.addAll(List.of(UNNEEDED));
        for (String word : words) {
            boolean found = Pattern.compile("\\b" + word + "\\b").matcher(text).find();
            Checks.due("the word stands in the program: " + word, found ? 1 : 0, 0);
        }
        Checks.due("a lambda", text.contains("->") ? 1 : 0, 0);
        Checks.due("a method reference", text.contains("::") ? 1 : 0, 0);
    }

    private static void library(List<String> lines) {
        for (String line : lines) {
            Matcher call = LIBRARY.matcher(line);
            while (call.find()) {
                boolean listed = OWN.contains(call.group(1)) || LISTED.contains(call.group(1) + "." + call.group(2));
                Checks.due("rule 4 lists: " + call.group(), listed ? 1 : 0, 1);
            }
        }
    }

    private static void recursion(List<Told> methods) {
        for (Told method : methods) {
            if (method.calls(method.name)) {
                boolean fits = method.modifiers.contains("private") && method.modifiers.contains("static");
                Checks.due("rule 8: private and static, for it calls itself: " + method.name, fits ? 1 : 0, 1);
            }
        }
    }

    private static void sizes(List<String> lines, List<Told> methods) {
        int classes = 0;
        for (String line : lines) {
            classes += CLASS.matcher(line).matches() ? 1 : 0;
        }
        Checks.due("rule 11: at most twelve classes", classes > 0 && classes <= MOST_CLASSES ? 1 : 0, 1);
        for (Told method : methods) {
            Checks.due("rule 11: parameters of " + method.name, method.parameters <= MOST_PARAMETERS ? 1 : 0, 1);
            Checks.due("rule 11: lines of " + method.name, method.body.size() <= MOST_LINES ? 1 : 0, 1);
            int deep = depth(methods, method, new TreeSet<>());
            Checks.due("rule 11: calls from " + method.name + " on, " + deep, deep <= DEEPEST ? 1 : 0, 1);
        }
    }

    /** How many calls stand open at once from this one on, what calls itself counted once. */
    private static int depth(List<Told> methods, Told from, Set<String> open) {
        if (!open.add(from.name)) {
            Checks.due("rule 8: methods that call one another, by " + from.name, 1, 0);
            return 0;
        }
        int deepest = 0;
        for (Told next : methods) {
            if (!next.name.equals(from.name) && from.calls(next.name)) {
                deepest = Math.max(deepest, depth(methods, next, open));
            }
        }
        open.remove(from.name);
        return 1 + deepest;
    }
}
