import java.lang.reflect.Constructor;
import java.lang.reflect.Field;
import java.lang.reflect.Method;
import java.lang.reflect.Modifier;
import java.nio.charset.StandardCharsets;
import java.nio.file.Files;
import java.nio.file.Path;
import java.util.regex.Matcher;
import java.util.regex.Pattern;

/** What LANGUAGE.md rules out, as far as a look at the source tells it. */
public final class RulesTest {
    private static final Checks checks = new Checks();

    public static void main(String[] args) throws Exception {
        String source = Files.readString(Path.of("src/main/java/SwapSteps.java"), StandardCharsets.US_ASCII);
        String code = source.replaceAll("(?s)/\\*.*?\\*/", " ").replaceAll("//[^\n]*", " ").replaceAll("\"[^\"]*\"", "\"\"");
        String[] ruledOut = {"\\bthrow\\b", "\\bthrows\\b", "\\btry\\b", "\\bcatch\\b", "\\bsynchronized\\b", "\\bassert\\b",
            "->", "::", "Exact\\b", "\\bhashCode\\b", "\\btoString\\b", "\\bequals\\b", "\\bObject\\b", "\\bMap\\b", "\\bvar\\b",
            "\\bpackage\\b", "\\bprotected\\b", "\\bSystem\\.(?!arraycopy)", "\\bimport (?!java\\.util\\.(Arrays|ArrayList|List);)",
            "\\bstatic (?!final\\b|int\\b|boolean\\b|void\\b|long\\b)", "\\bnew [A-Za-z]+\\(\\) *\\{"};
        for (String pattern : ruledOut) {
            Matcher matcher = Pattern.compile(pattern).matcher(code);
            checks.due("source has " + pattern, matcher.find() ? 1 : 0, 0);
        }
        looksAtFace();
        looksAtClasses();
        looksAtFields(SwapSteps.class);
        looksAtMethods(SwapSteps.class);
        looksAtLengths(source.split("\n"));
        checks.finish();
    }

    private static void looksAtFace() {
        int publicMethods = 0;
        for (Method method : SwapSteps.class.getDeclaredMethods()) {
            boolean isPublic = Modifier.isPublic(method.getModifiers());
            publicMethods += isPublic ? 1 : 0;
            checks.due(method + " is public or private", isPublic || Modifier.isPrivate(method.getModifiers()) ? 1 : 0, 1);
        }
        checks.due("public methods", publicMethods, 32);
        int publicFields = 0;
        for (Field field : SwapSteps.class.getDeclaredFields()) {
            boolean isPublic = Modifier.isPublic(field.getModifiers());
            publicFields += isPublic ? 1 : 0;
            checks.due(field + " is public or private", isPublic || Modifier.isPrivate(field.getModifiers()) ? 1 : 0, 1);
        }
        checks.due("public constants", publicFields, 6);
        checks.due("constructors", SwapSteps.class.getConstructors().length, 1);
    }

    private static void looksAtClasses() {
        checks.due("classes", SwapSteps.class.getDeclaredClasses().length <= 11 ? 1 : 0, 1);
        for (Class<?> inside : SwapSteps.class.getDeclaredClasses()) {
            checks.due(inside + " is static", Modifier.isStatic(inside.getModifiers()) ? 1 : 0, 1);
            for (Method method : inside.getDeclaredMethods()) {
                for (Method face : SwapSteps.class.getDeclaredMethods()) {
                    boolean isTaken = Modifier.isPublic(face.getModifiers()) && face.getName().equals(method.getName());
                    checks.due(method + " bears a public name", isTaken ? 1 : 0, 0);
                }
            }
            looksAtFields(inside);
            looksAtMethods(inside);
        }
    }

    private static void looksAtFields(Class<?> one) {
        int fields = 0;
        for (Field field : one.getDeclaredFields()) {
            boolean isStatic = Modifier.isStatic(field.getModifiers());
            fields += isStatic ? 0 : 1;
            checks.due(field + " is final or no static", !isStatic || Modifier.isFinal(field.getModifiers()) ? 1 : 0, 1);
        }
        checks.due(one + " has few fields", fields <= 20 ? 1 : 0, 1);
    }

    private static void looksAtMethods(Class<?> one) {
        for (Method method : one.getDeclaredMethods()) {
            checks.due(method + " takes few parameters", method.getParameterCount() <= 7 ? 1 : 0, 1);
        }
        for (Constructor<?> constructor : one.getDeclaredConstructors()) {
            checks.due(constructor + " takes few parameters", constructor.getParameterCount() <= 7 ? 1 : 0, 1);
        }
    }

    /** A method's first line ends with ") {" at one or two steps in, and its last line is a brace as far in. */
    private static void looksAtLengths(String[] lines) {
        int methods = 0;
        for (int i = 0; i < lines.length; i++) {
            int in = lines[i].length() - lines[i].stripLeading().length();
            if ((in == 4 || in == 8) && lines[i].matches(" *[\\w\\[\\] ]+\\(.*\\) \\{")
                && !lines[i].matches(" *(if|for|while|switch) .*")) {
                int end = i;
                while (end < lines.length && !lines[end].equals(" ".repeat(in) + "}")) {
                    end++;
                }
                methods++;
                checks.due("lines of" + lines[i] + " are few", end - i < 60 ? 1 : 0, 1);
            }
        }
        checks.due("methods were found", methods > 100 ? 1 : 0, 1);
    }
}
