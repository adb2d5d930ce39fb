import java.lang.reflect.Method;
import java.lang.reflect.Modifier;
import java.nio.file.Files;
import java.nio.file.Path;
import java.util.HashMap;
import java.util.Map;
import java.util.Set;
import java.util.TreeSet;
import java.util.regex.Matcher;
import java.util.regex.Pattern;
import java.util.stream.Collectors;
import java.util.stream.Stream;

/**
 * README.md is true: its Java is run, line by line, and each answer that a line names is the one that the class gives; it
 * shows each call of the face, and lists each test.
 */
public final class ReadmeTest {
    private static final Pattern MAKE = Pattern.compile("StageSteps (\\w+) = new StageSteps\\((-?\\d+)\\);( +// .*)?");
    private static final Pattern CALL = Pattern.compile("(\\w+)\\.(\\w+)\\(([^()]*)\\); +// (true|false|NONE|-?\\d+)(: .+)?");
    private static final Pattern ROW = Pattern.compile("\\| `(\\w+)` \\| .+ \\|");

    private static final Map<String, StageSteps> MADE = new HashMap<>();
    private static final Set<String> SHOWN = new TreeSet<>();
    private static final Set<String> LISTED = new TreeSet<>();

    private ReadmeTest() {
    }

    public static void main(String[] args) throws Exception {
        boolean inJava = false;
        for (String line : Files.readAllLines(Path.of("README.md"))) {
            if (line.startsWith("```")) {
                inJava = line.equals("```java");
            } else if (inJava && !line.isBlank()) {
                run(line);
            }
            Matcher row = ROW.matcher(line);
            if (row.matches()) {
                LISTED.add(row.group(1));
            }
        }
        Due.yes("README.md shows each call of the face: " + SHOWN, SHOWN.equals(face()));
        Due.yes("README.md lists each test: " + LISTED, LISTED.equals(tests()));
        Due.finish("ReadmeTest");
    }

    private static void run(String line) throws Exception {
        Matcher make = MAKE.matcher(line);
        Matcher call = CALL.matcher(line);
        if (make.matches()) {
            MADE.put(make.group(1), new StageSteps(Integer.parseInt(make.group(2))));
        } else if (call.matches() && MADE.containsKey(call.group(1))) {
            SHOWN.add(call.group(2));
            String got = answer(MADE.get(call.group(1)), call.group(2), call.group(3));
            Due.yes("README.md: " + line.strip() + " (answered " + got + ")", got.equals(call.group(4)));
        } else {
            Due.fail("README.md: neither a new object nor a call with its answer: " + line);
        }
    }

    private static String answer(StageSteps x, String name, String text) throws Exception {
        String[] words = text.isEmpty() ? new String[0] : text.split(", ");
        for (Method method : StageSteps.class.getMethods()) {
            Class<?>[] types = method.getParameterTypes();
            if (method.getName().equals(name) && types.length == words.length) {
                Object[] values = new Object[words.length];
                for (int k = 0; k < words.length; k++) {
                    values[k] = value(types[k], words[k]);
                }
                Object answer = method.invoke(x, values);
                return answer.equals(StageSteps.NONE) ? "NONE" : answer.toString();
            }
        }
        return "no such call";
    }

    private static Object value(Class<?> type, String word) {
        if (type == boolean.class && (word.equals("true") || word.equals("false"))) {
            return word.equals("true");
        }
        return Integer.valueOf(word);
    }

    private static Set<String> face() {
        return Stream.of(StageSteps.class.getDeclaredMethods()).filter(m -> Modifier.isPublic(m.getModifiers()))
                .map(Method::getName).collect(Collectors.toCollection(TreeSet::new));
    }

    private static Set<String> tests() throws Exception {
        try (Stream<Path> files = Files.list(Path.of("src/test/java"))) {
            return files.map(file -> file.getFileName().toString()).filter(name -> name.endsWith("Test.java"))
                    .map(name -> name.replace(".java", "")).collect(Collectors.toCollection(TreeSet::new));
        }
    }
}
