import java.io.PrintWriter;
import java.io.StringWriter;
import java.util.ArrayDeque;
import java.util.ArrayList;
import java.util.Deque;
import java.util.List;
import java.util.Map;
import java.util.Set;
import java.util.TreeMap;
import java.util.TreeSet;
import java.util.regex.Matcher;
import java.util.regex.Pattern;
import java.util.spi.ToolProvider;

/** LANGUAGE.md, rules 8 and 11: calls that are no recursion go at most eight deep, and one method alone calls itself. */
public final class DepthTest {
    private static final int DEEPEST = 8;
    private static final Pattern METHOD = Pattern.compile("  \\S.*?([\\w$]+)\\(.*\\);");
    private static final Pattern CALL = Pattern.compile(".*// Method (\\S+):.*");
    private static final Set<String> RECURSIVE = Set.of("StageSteps$Search.tryFrom");

    private final Map<String, Set<String>> calls = new TreeMap<>();
    private final Deque<String> open = new ArrayDeque<>();

    private DepthTest() {
    }

    public static void main(String[] args) {
        DepthTest test = new DepthTest();
        test.read();
        Due.yes("the methods were found", test.calls.containsKey("StageSteps.best") && test.calls.size() > 60);
        for (String method : List.copyOf(test.calls.keySet())) {
            Due.yes("11: eight deep at most, from " + method, test.deepest(method) <= DEEPEST);
        }
        Due.finish("DepthTest");
    }

    private void read() {
        read(StageSteps.class.getName());
        for (Class<?> inside : StageSteps.class.getDeclaredClasses()) {
            read(inside.getName());
        }
    }

    private void read(String type) {
        StringWriter text = new StringWriter();
        PrintWriter to = new PrintWriter(text);
        String path = System.getProperty("java.class.path");
        int code = ToolProvider.findFirst("javap").orElseThrow().run(to, to, "-c", "-p", "-cp", path, type);
        Due.is("javap of " + type, code, 0);
        String method = type;
        for (String line : text.toString().split("\n")) {
            Matcher begins = METHOD.matcher(line);
            Matcher call = CALL.matcher(line);
            if (begins.matches() && line.charAt(2) != ' ') {
                method = type + "." + begins.group(1);
                calls.putIfAbsent(method, new TreeSet<>());
            } else if (call.matches() && calls.containsKey(method)) {
                String name = call.group(1);
                calls.get(method).add(name.contains(".") ? name : type + "." + name);
            }
        }
    }

    private int deepest(String method) {
        int deepest = 0;
        open.push(method);
        for (String next : new ArrayList<>(calls.get(method))) {
            if (open.contains(next)) {
                Due.yes("8: recursion: " + next, RECURSIVE.contains(next));
            } else if (calls.containsKey(next)) {
                deepest = Math.max(deepest, deepest(next));
            }
        }
        open.pop();
        return deepest + 1;
    }
}
