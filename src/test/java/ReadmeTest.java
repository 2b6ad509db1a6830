import java.lang.reflect.Method;
import java.nio.file.Files;
import java.nio.file.Path;
import java.util.HashMap;
import java.util.HashSet;
import java.util.Map;
import java.util.Set;
import java.util.regex.Matcher;
import java.util.regex.Pattern;

/** The example of README.md answers what stands behind each of its calls; run from the project's folder. */
public final class ReadmeTest {
    private static final Check CHECK = new Check();
    private static final Pattern CALL =
            Pattern.compile("^(?:int (\\w+) = )?advisor\\.(\\w+)\\(([^)]*)\\); +// (-?\\d+)\\b.*");
    private static final Pattern TYPED = Pattern.compile("for \\(char c : \"(.*)\"\\.toCharArray\\(\\)\\) \\{");

    private final LearningAdvisor advisor = new LearningAdvisor();
    private final Map<String, Integer> names = new HashMap<>();
    private final Set<String> called = new HashSet<>();

    private int valueOf(String argument) {
        return names.containsKey(argument) ? names.get(argument) : Integer.parseInt(argument);
    }

    private int call(String name, String arguments) throws Exception {
        String[] parts = arguments.isEmpty() ? new String[0] : arguments.split(", ");
        Class<?>[] types = new Class<?>[parts.length];
        Object[] values = new Object[parts.length];
        for (int i = 0; i < parts.length; i++) {
            types[i] = int.class;
            values[i] = valueOf(parts[i]);
        }
        called.add(name);
        Method method = LearningAdvisor.class.getMethod(name, types);
        return (Integer) method.invoke(advisor, values);
    }

    private void follow(String line) throws Exception {
        Matcher typed = TYPED.matcher(line);
        Matcher call = CALL.matcher(line);
        if (typed.matches()) {
            Advisors.type(advisor, typed.group(1));
            called.add("append");
        } else if (call.matches()) {
            int answer = call(call.group(2), call.group(3));
            CHECK.due(line, answer, Integer.parseInt(call.group(4)));
            if (call.group(1) != null) {
                names.put(call.group(1), answer);
            }
        } else {
            boolean isKnown = line.startsWith("LearningAdvisor advisor = ") || line.equals("    advisor.append(c, 1);")
                    || line.equals("}");
            CHECK.due("a line that is no call with its answer: " + line, isKnown ? 1 : 0, 1);
        }
    }

    private void everyMethodIsShown() {
        for (Method method : LearningAdvisor.class.getDeclaredMethods()) {
            if (java.lang.reflect.Modifier.isPublic(method.getModifiers())) {
                CHECK.due("calls of " + method.getName(), called.contains(method.getName()) ? 1 : 0, 1);
            }
        }
    }

    public static void main(String[] args) throws Exception {
        ReadmeTest test = new ReadmeTest();
        boolean isJava = false;
        for (String line : Files.readAllLines(Path.of("README.md"))) {
            if (line.startsWith("```")) {
                isJava = line.equals("```java");
            } else if (isJava) {
                test.follow(line);
            }
        }
        test.everyMethodIsShown();
        CHECK.end();
    }
}
