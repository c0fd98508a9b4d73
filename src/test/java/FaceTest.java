import java.io.IOException;
import java.lang.reflect.Constructor;
import java.lang.reflect.Field;
import java.lang.reflect.Member;
import java.lang.reflect.Method;
import java.lang.reflect.Modifier;
import java.nio.file.Files;
import java.nio.file.Path;
import java.util.ArrayList;
import java.util.Arrays;
import java.util.List;
import java.util.Set;
import java.util.TreeSet;
import java.util.regex.Matcher;
import java.util.regex.Pattern;
import java.util.stream.Collectors;

/** The public face, and what of LANGUAGE.md can be seen from outside. */
public final class FaceTest {
    private static final String[] FACE = {
        "void place(int, int, int, int) IllegalArgumentException",
        "void limit(int, int, int) IllegalArgumentException",
        "int unit(int, int, int) IllegalArgumentException, UnsupportedOperationException",
        "void size(int, int, int, int, int) NoSuchElementException, IllegalArgumentException, IllegalStateException",
        "void nature(int, int, int, int) NoSuchElementException, IllegalArgumentException, IllegalStateException",
        "int rule(int, int, int, int) IllegalArgumentException, UnsupportedOperationException",
        "int sign(int) ",
        "int read() ",
        "void own(int, int) IllegalArgumentException",
        "void except(int, int, int, int) NoSuchElementException, IllegalArgumentException,"
            + " UnsupportedOperationException",
        "int may(int, int, int) NoSuchElementException, IllegalArgumentException",
        "int explain(int) IllegalArgumentException",
        "int put(int, int, int) NoSuchElementException, IllegalArgumentException, IllegalStateException",
        "void take(int) NoSuchElementException, IllegalStateException",
        "int turned(int, int) NoSuchElementException, IllegalArgumentException",
        "int never(int) IllegalArgumentException",
        "int clash(int, int) IllegalArgumentException",
        "int at(int, int) IllegalArgumentException",
        "int count(int) ",
    };
    private static final String[] BARRED = {"->", "::", "\\btry\\b", "\\bcatch\\b", "\\bfinally\\b", "\\bassert\\b",
        "\\bsynchronized\\b", "Exact\\(", "\\bSystem\\b", "\\bThread\\b", "\\bRandom\\b", "\\bpackage\\b",
        "\\bhashCode\\b", "\\btoString\\b", "\\bdouble\\b", "\\bfloat\\b"};

    private static final Pattern THROWN = Pattern.compile("throw new (IllegalStateException|IllegalArgumentException"
        + "|UnsupportedOperationException|NoSuchElementException)\\(\"[^\"]+\"\\);");
    private static final Pattern FIRST_LINE =
        Pattern.compile("( {4}| {8})(?!if|for|while|switch|do|else|case|return|throw|})[A-Za-z][^=;]*\\([^;]*[){a-z]");
    private static final int LONGEST_METHOD = 60;

    private final Check check = new Check();

    public static void main(String[] args) throws IOException {
        FaceTest test = new FaceTest();
        test.face();
        test.nothingElse();
        test.classesInside();
        String source = Files.readString(Path.of("src/main/java/PlaceRules.java"));
        test.source(source);
        test.shortMethods(source.lines().toList());
        test.check.end();
    }

    private void face() {
        check.part("the face");
        check.that("the class is public and final",
            Modifier.isPublic(PlaceRules.class.getModifiers()) && Modifier.isFinal(PlaceRules.class.getModifiers()));
        Constructor<?>[] constructors = PlaceRules.class.getDeclaredConstructors();
        check.that("one public constructor without parameters", constructors.length == 1
            && Modifier.isPublic(constructors[0].getModifiers()) && constructors[0].getParameterCount() == 0);
        Set<String> found = new TreeSet<>();
        for (Method m : PlaceRules.class.getDeclaredMethods()) {
            if (Modifier.isPublic(m.getModifiers())) {
                found.add(m.getReturnType() + " " + m.getName() + "(" + names(m.getParameterTypes()) + ") "
                    + names(m.getExceptionTypes()));
            }
        }
        Set<String> due = new TreeSet<>(Arrays.asList(FACE));
        check.that("found " + found + ", due is " + due, found.equals(due));
    }

    private static String names(Class<?>[] types) {
        return Arrays.stream(types).map(Class::getSimpleName).collect(Collectors.joining(", "));
    }

    private void nothingElse() {
        check.part("nothing else");
        List<Member> members = new ArrayList<>(Arrays.asList(PlaceRules.class.getDeclaredFields()));
        members.addAll(Arrays.asList(PlaceRules.class.getDeclaredMethods()));
        Set<String> shown = shownNames();
        for (Member m : members) {
            int modifiers = m.getModifiers();
            check.that(m + " is public or private", Modifier.isPublic(modifiers) || Modifier.isPrivate(modifiers));
            check.that(m + " is no public field", !(m instanceof Field) || Modifier.isPrivate(modifiers));
            check.that(m + " bears no public name", !(m instanceof Method) || Modifier.isPublic(modifiers)
                || !shown.contains(m.getName()));
        }
    }

    private static Set<String> shownNames() {
        Set<String> shown = new TreeSet<>();
        for (String line : FACE) {
            shown.add(line.substring(line.indexOf(' ') + 1, line.indexOf('(')));
        }
        return shown;
    }

    private void classesInside() {
        check.part("classes inside");
        List<Class<?>> classes = new ArrayList<>(List.of(PlaceRules.class.getDeclaredClasses()));
        check.that("at most some twelve classes", classes.size() < 12);
        for (Class<?> c : classes) {
            check.that(c + " is static", Modifier.isStatic(c.getModifiers()));
            check.that(c + " is not public", !Modifier.isPublic(c.getModifiers())
                && !Modifier.isProtected(c.getModifiers()));
        }
        classes.add(PlaceRules.class);
        for (Class<?> c : classes) {
            int own = 0;
            for (Field f : c.getDeclaredFields()) {
                boolean fixed = Modifier.isStatic(f.getModifiers());
                own += fixed ? 0 : 1;
                check.that(f + " is final if static", !fixed || Modifier.isFinal(f.getModifiers()));
            }
            check.that(c + " has some twenty fields", own <= 20);
            for (Method m : c.getDeclaredMethods()) {
                check.that(m + " has at most seven parameters", m.getParameterCount() <= 7);
                check.that(m + " bears no public name", c == PlaceRules.class || !shownNames().contains(m.getName()));
            }
        }
    }

    private void source(String source) {
        check.part("the source");
        String code = source.replaceAll("(?s)/\\*.*?\\*/", "").replaceAll("//[^\n]*", "");
        for (String barred : BARRED) {
            check.that("no " + barred, !Pattern.compile(barred).matcher(code).find());
        }
        List<String> imports = code.lines().filter(line -> line.startsWith("import ")).toList();
        check.that("imports are " + imports, imports.equals(List.of("import java.util.NoSuchElementException;")));
        long thrown = Pattern.compile("\\bthrow\\b").matcher(code).results().count();
        check.that("each throw has a written text and one of the document's classes",
            thrown > 0 && thrown == THROWN.matcher(code).results().count());
    }

    /** A method's last line is the brace that stands as far in as its first line. */
    private void shortMethods(List<String> lines) {
        check.part("the source");
        int found = 0;
        for (int i = 0; i < lines.size(); i++) {
            Matcher first = FIRST_LINE.matcher(lines.get(i));
            if (first.matches()) {
                found++;
                int length = lines.subList(i, lines.size()).indexOf(first.group(1) + "}") + 1;
                check.that(lines.get(i).strip() + " .. has " + length + " lines",
                    length > 0 && length <= LONGEST_METHOD);
            }
        }
        check.that("methods are found by their first lines: " + found, found > FACE.length);
    }
}
