import java.io.IOException;
import java.lang.reflect.InvocationTargetException;
import java.lang.reflect.Method;
import java.lang.reflect.Modifier;
import java.nio.file.Files;
import java.nio.file.Path;
import java.util.Set;
import java.util.TreeSet;
import java.util.regex.Matcher;
import java.util.regex.Pattern;

/** The examples of README.md answer as they say, and show each call of the face. */
public final class ReadmeTest {
    private static final String MAKING = "PlaceRules rules = new PlaceRules();";
    private static final Pattern CALL = Pattern.compile("rules\\.(\\w+)\\(([-0-9, ]*)\\);(?: +// (.+))?");
    private static final Pattern SIGNS =
        Pattern.compile("for \\(char c : \"([^\"]*)\"\\.toCharArray\\(\\)\\) \\{ rules\\.sign\\(c\\); }");
    private static final Pattern ANSWER = Pattern.compile("(-?[0-9]+|\\w+Exception): .+");

    private final Check check = new Check();
    private final Set<String> shown = new TreeSet<>();
    private PlaceRules rules;

    public static void main(String[] args) throws IOException {
        ReadmeTest test = new ReadmeTest();
        boolean inExample = false;
        for (String line : Files.readAllLines(Path.of("README.md"))) {
            if (line.startsWith("```")) {
                inExample = line.equals("```java");
            } else if (inExample && !line.isBlank()) {
                test.run(line);
            }
        }
        test.eachCallIsShown();
        test.check.end();
    }

    private void run(String line) {
        check.part("README.md, " + line);
        if (line.equals(MAKING)) {
            rules = new PlaceRules();
            return;
        }
        check.that("an object is made before", rules != null);
        Matcher signs = SIGNS.matcher(line);
        if (signs.matches()) {
            shown.add("sign");
            for (char c : signs.group(1).replace("\\n", "\n").toCharArray()) {
                rules.sign(c);
            }
            return;
        }
        Matcher call = CALL.matcher(line);
        boolean known = call.matches();
        check.that("this is no line that can be run", known);
        if (known) {
            call(call.group(1), call.group(2), call.group(3) == null ? "" : call.group(3));
        }
    }

    private void call(String name, String numbers, String words) {
        Method method = methodOf(name);
        check.that("there is no call " + name, method != null);
        if (method == null) {
            return;
        }
        shown.add(name);
        Matcher answer = ANSWER.matcher(words);
        boolean told = answer.matches();
        boolean answers = method.getReturnType() != void.class;
        check.that("its answer is told", told || !answers);
        String due = told ? answer.group(1) : "null";
        String got = answerOf(method, numbers);
        check.that("answered " + got + ", README.md says " + due, got.equals(due));
    }

    private String answerOf(Method method, String numbers) {
        String[] parts = numbers.isEmpty() ? new String[0] : numbers.split(", ");
        Object[] arguments = new Object[parts.length];
        for (int i = 0; i < parts.length; i++) {
            arguments[i] = Integer.valueOf(parts[i]);
        }
        try {
            return "" + method.invoke(rules, arguments);
        } catch (InvocationTargetException e) {
            return e.getCause().getClass().getSimpleName();
        } catch (IllegalAccessException | IllegalArgumentException e) {
            return "that it cannot be called so";
        }
    }

    private static Method methodOf(String name) {
        for (Method method : PlaceRules.class.getDeclaredMethods()) {
            if (Modifier.isPublic(method.getModifiers()) && method.getName().equals(name)) {
                return method;
            }
        }
        return null;
    }

    private void eachCallIsShown() {
        check.part("README.md");
        for (Method method : PlaceRules.class.getDeclaredMethods()) {
            if (Modifier.isPublic(method.getModifiers())) {
                check.that(method.getName() + " is in no example", shown.contains(method.getName()));
            }
        }
    }
}
