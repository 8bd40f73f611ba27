import java.io.IOException;
import java.nio.file.Files;
import java.nio.file.Path;
import java.util.ArrayList;
import java.util.LinkedHashMap;
import java.util.List;
import java.util.Map;
import java.util.Set;
import java.util.TreeSet;
import java.util.regex.Matcher;
import java.util.regex.Pattern;

/** The rules of LANGUAGE.md that the text of the class shows; FaceTest has those that reflection shows. */
public final class LanguageTest {
    private static final Path SOURCE = Path.of("src/main/java/SessionDesk.java");
    private static final Set<String> FORBIDDEN = Set.of("package", "import", "throw", "throws", "try", "catch",
        "synchronized", "assert", "instanceof", "null", "float", "double", "interface", "enum", "record", "protected",
        "String", "Object", "Math", "Integer", "Long", "System", "Arrays", "clone", "equals", "hashCode", "toString",
        "getClass");
    private static final Set<String> NOT_CALLS = Set.of("if", "for", "while", "switch", "return");
    private static final Pattern HEAD =
        Pattern.compile("    (?:public|private) (?:static )?(?:\\w+(?:\\[\\])? )?(\\w+)\\(.*\\) \\{");
    private static final Pattern CALL = Pattern.compile("\\b([A-Za-z_]\\w*)\\(");
    private static final int MOST_LINES = 60;
    private static final int MOST_DEEP = 6;

    public static void main(String[] args) throws IOException {
        List<String> lines = Files.readAllLines(SOURCE).stream()
            .map(line -> line.replaceFirst("//.*", "").stripTrailing()).toList();
        words(lines);
        Map<String, List<String>> methods = methods(lines);
        fields(lines, methods);
        for (String name : methods.keySet()) {
            body(name, methods.get(name), methods.keySet());
            int deep = depth(name, methods, new ArrayList<>());
            holds(name + " calls at most six deep, itself counted (rules 8 and 10)", deep <= MOST_DEEP);
        }
        Due.end();
    }

    private static void holds(String what, boolean does) {
        Due.text(what, "true", "" + does);
    }

    private static void words(List<String> lines) {
        TreeSet<String> got = new TreeSet<>();
        for (String line : lines) {
            for (String word : line.split("\\W+")) {
                if (FORBIDDEN.contains(word)) {
                    got.add(word);
                }
            }
            holds("no text, lambda, method reference or annotation in: " + line.strip(),
                !line.contains("\"") && !line.contains("->") && !line.contains("::") && !line.contains("@"));
        }
        Due.text("words that rules 1, 2, 3, 4 and 6 leave out", "[]", got.toString());
    }

    /** Each method's lines, its head first, by its name. The class is indented by four, so a method ends at "    }". */
    private static Map<String, List<String>> methods(List<String> lines) {
        Map<String, List<String>> methods = new LinkedHashMap<>();
        List<String> body = null;
        for (String line : lines) {
            Matcher head = HEAD.matcher(line);
            if (head.matches()) {
                body = new ArrayList<>();
                holds(head.group(1) + " is one method alone (rule 1)", methods.put(head.group(1), body) == null);
            }
            if (body != null) {
                body.add(line);
            }
            if (line.equals("    }")) {
                body = null;
            }
        }
        holds("there are methods", methods.size() > 19);
        return methods;
    }

    private static void fields(List<String> lines, Map<String, List<String>> methods) {
        List<String> outside = new ArrayList<>(lines);
        methods.values().forEach(outside::removeAll);
        for (String line : outside) {
            if (line.contains("new ")) {
                holds("an array with a constant length (rule 4): " + line.strip(),
                    line.matches("    private final (int|boolean)\\[\\] \\w+ = new \\1\\[[A-Z_]+\\];"));
            }
        }
    }

    private static void body(String name, List<String> body, Set<String> names) {
        holds(name + " is short (rule 10)", body.size() <= MOST_LINES);
        for (int n = 1; n < body.size(); n++) {
            String line = body.get(n);
            holds(name + " makes nothing (rule 4): " + line.strip(), !line.matches(".*\\bnew\\b.*"));
            holds(name + " has for loops with a bound alone (rule 8): " + line.strip(),
                !line.matches(".*\\b(while|do)\\b.*") && (!line.contains("for (") || line.matches(".* <=? .*")));
            for (String called : calls(line)) {
                holds(name + " calls a method of the class (rule 3): " + called, names.contains(called));
            }
            holds("no call in the arguments of another (rule 10): " + line.strip(), !hasNestedCall(line));
        }
    }

    private static List<String> calls(String line) {
        List<String> calls = new ArrayList<>();
        Matcher call = CALL.matcher(line);
        while (call.find()) {
            if (!NOT_CALLS.contains(call.group(1))) {
                calls.add(call.group(1));
            }
        }
        return calls;
    }

    private static boolean hasNestedCall(String line) {
        Matcher call = CALL.matcher(line);
        while (call.find()) {
            int end = call.end();
            for (int open = 1; open > 0 && end < line.length(); end++) {
                open += line.charAt(end) == '(' ? 1 : line.charAt(end) == ')' ? -1 : 0;
            }
            if (!calls(line.substring(call.end(), end)).isEmpty()) {
                return true;
            }
        }
        return false;
    }

    /** How many methods are open at most while this one runs; more than any if it comes to itself again. */
    private static int depth(String name, Map<String, List<String>> methods, List<String> open) {
        if (open.contains(name)) {
            return Integer.MAX_VALUE - MOST_LINES;
        }
        open.add(name);
        int deepest = 0;
        for (String line : methods.get(name).subList(1, methods.get(name).size())) {
            for (String called : calls(line)) {
                deepest = methods.containsKey(called) ? Math.max(deepest, depth(called, methods, open)) : deepest;
            }
        }
        open.remove(name);
        return deepest + 1;
    }
}
