import java.lang.reflect.Method;
import java.lang.reflect.Modifier;
import java.nio.charset.StandardCharsets;
import java.nio.file.Files;
import java.nio.file.Path;
import java.util.HashMap;
import java.util.HashSet;
import java.util.List;
import java.util.Map;
import java.util.Set;
import java.util.regex.Matcher;
import java.util.regex.Pattern;

/** The calls that README.md shows have the answers that it shows; it shows each call, and names each test. */
public final class ReadmeTest {
    private static final Pattern SHOWN = Pattern.compile("x\\.(\\w+)\\((.*?)\\); *// (-?\\d+|[A-Z]+)(:.*)?");
    private static final int MOST_CALLS = 512;

    private static final Checks checks = new Checks();
    private static final Map<String, Method> calls = new HashMap<>();
    private static final Set<String> shown = new HashSet<>();

    public static void main(String[] args) throws Exception {
        for (Method method : SwapSteps.class.getDeclaredMethods()) {
            if (Modifier.isPublic(method.getModifiers())) {
                calls.put(method.getName(), method);
            }
        }
        List<String> lines = Files.readAllLines(Path.of("README.md"), StandardCharsets.US_ASCII);
        makesShownCalls(lines);
        for (String call : calls.keySet()) {
            checks.due("README.md shows " + call, shown.contains(call) ? 1 : 0, 1);
        }
        namesEachTest(String.join("\n", lines));
        checks.finish();
    }

    private static void makesShownCalls(List<String> lines) throws Exception {
        boolean isJava = false;
        SwapSteps x = null;
        int made = 0;
        for (String line : lines) {
            if (line.startsWith("```")) {
                isJava = line.equals("```java");
                x = null;
            } else if (isJava && line.startsWith("SwapSteps x = new SwapSteps();")) {
                x = new SwapSteps();
                made = 0;
            } else if (isJava) {
                made++;
                checks.due(line + " is one of few calls of an object", x != null && made <= MOST_CALLS ? 1 : 0, 1);
                makesShownCall(x, line);
            }
        }
    }

    private static void makesShownCall(SwapSteps x, String line) throws Exception {
        Matcher matcher = SHOWN.matcher(line);
        boolean isShown = matcher.matches() && calls.containsKey(matcher.group(1));
        checks.due(line + " is a call with its answer", isShown ? 1 : 0, 1);
        if (!isShown || x == null) {
            return;
        }
        shown.add(matcher.group(1));
        Method method = calls.get(matcher.group(1));
        String[] told = matcher.group(2).isEmpty() ? new String[0] : matcher.group(2).split(", ");
        Class<?>[] types = method.getParameterTypes();
        checks.due(line + " has as many arguments as are due", told.length, types.length);
        Object[] arguments = new Object[types.length];
        for (int i = 0; i < types.length; i++) {
            arguments[i] = argument(told[i], types[i]);
        }
        checks.due("README.md: " + line, (int) method.invoke(x, arguments), number(matcher.group(3)));
    }

    private static Object argument(String told, Class<?> type) {
        if (type == boolean.class) {
            return Boolean.valueOf(told);
        }
        return type == long.class ? Long.decode(told.replace("L", "")) : (Object) Integer.valueOf(told);
    }

    private static int number(String answer) throws Exception {
        return Character.isLetter(answer.charAt(0)) ? SwapSteps.class.getField(answer).getInt(null) : Integer.parseInt(answer);
    }

    private static void namesEachTest(String readme) throws Exception {
        try (var files = Files.newDirectoryStream(Path.of("src/test/java"), "*Test.java")) {
            for (Path file : files) {
                String name = file.getFileName().toString().replace(".java", "");
                checks.due("README.md names " + name, readme.contains("`" + name + "`") ? 1 : 0, 1);
            }
        }
    }
}
