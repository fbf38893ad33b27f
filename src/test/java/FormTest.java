import java.io.IOException;
import java.lang.reflect.Constructor;
import java.lang.reflect.Field;
import java.lang.reflect.Method;
import java.lang.reflect.Modifier;
import java.nio.file.Files;
import java.nio.file.Path;
import java.util.Arrays;
import java.util.Set;
import java.util.TreeSet;
import java.util.regex.Matcher;
import java.util.regex.Pattern;
import java.util.stream.Collectors;

/** The rules of ../shared/LANGUAGE.md that can be seen from outside; run where the project lies. */
final class FormTest {
    private static final Check CHECK = new Check("FormTest");

    private static final String FACE = "row(int,int,int) set(int,int,int) copy(int,int,int,int,int) drop(int) feed(int)"
            + " town() fault() minutes(int) bones(int,int) walk(int,int) put(int,int) undo() dog(int,int) person(int,int)"
            + " ahead(int,int) goes(int,int) crowned(int) heir(int) least(int) walks(int) cats(int,int)"
            + " shows(int,int,int) packs(int) hangs() fits(int,int,int,int,int) suits(int,int,int,int,int,int)"
            + " asleep(int,int,int) drawn(int,int,int) image(int) restore(int) kind(int) as(int,int) ask(int,int)"
            + " trace(int) count(int) status()";

    private FormTest() {
    }

    public static void main(String[] args) throws IOException {
        face();
        classes();
        text(Files.readString(Path.of("src/main/java/DogKings.java")));
        CHECK.end();
    }

    /** Rule 1. */
    private static void face() {
        Set<String> open = new TreeSet<>();
        Set<String> names = new TreeSet<>();
        for (Method m : DogKings.class.getDeclaredMethods()) {
            if (!Modifier.isPrivate(m.getModifiers())) {
                open.add(m.getName() + Arrays.stream(m.getParameterTypes()).map(Class::getSimpleName)
                        .collect(Collectors.joining(",", "(", ")")));
                names.add(m.getName());
                CHECK.holds(m + " is public, answers an int", m.getReturnType() == int.class
                        && m.getModifiers() == Modifier.PUBLIC);
            }
        }
        CHECK.holds("the methods are " + open, open.equals(new TreeSet<>(Arrays.asList(FACE.split(" ")))));
        for (Class<?> c : all()) {
            for (Method m : c.getDeclaredMethods()) {
                CHECK.holds(m + " bears no public name", c == DogKings.class
                        && !Modifier.isPrivate(m.getModifiers()) || !names.contains(m.getName()));
            }
        }
        Set<String> fields = new TreeSet<>();
        for (Field f : DogKings.class.getDeclaredFields()) {
            if (!Modifier.isPrivate(f.getModifiers())) {
                fields.add(f.getName());
            }
        }
        CHECK.holds("the constants are " + fields, fields.equals(Set.of("NONE", "BAD", "STATE", "FULL")));
        Constructor<?>[] constructors = DogKings.class.getDeclaredConstructors();
        CHECK.holds("one public constructor", constructors.length == 1
                && constructors[0].getModifiers() == Modifier.PUBLIC && constructors[0].getParameterCount() == 0);
        CHECK.holds("public, final", DogKings.class.getModifiers() == (Modifier.PUBLIC | Modifier.FINAL));
    }

    private static Set<Class<?>> all() {
        Set<Class<?>> set = new java.util.LinkedHashSet<>(Arrays.asList(DogKings.class.getDeclaredClasses()));
        set.add(DogKings.class);
        return set;
    }

    /** Rules 2, 5, 11. */
    private static void classes() {
        CHECK.holds("some twelve classes", all().size() <= 12);
        for (Class<?> c : all()) {
            CHECK.holds(c + " is static, not public", c == DogKings.class
                    || Modifier.isStatic(c.getModifiers()) && !Modifier.isPublic(c.getModifiers()));
            CHECK.due("classes inside " + c, c == DogKings.class ? 0 : c.getDeclaredClasses().length, 0);
            int fields = 0;
            for (Field f : c.getDeclaredFields()) {
                if (Modifier.isStatic(f.getModifiers())) {
                    CHECK.holds(f + " is final", Modifier.isFinal(f.getModifiers()));
                } else {
                    fields++;
                }
            }
            CHECK.holds(c + " has some twenty fields", fields <= 20);
            for (Method m : c.getDeclaredMethods()) {
                CHECK.holds(m + " takes seven parameters at most", m.getParameterCount() <= 7);
            }
        }
    }

    /** Rules 4, 6, 10, 13, and how long a method is. */
    private static void text(String source) {
        String code = source.replaceAll("(?s)/\\*.*?\\*/", "").replaceAll("//[^\n]*", "");
        String[] never = {"\\bthrows?\\b", "\\btry\\b", "\\bcatch\\b", "\\bsynchronized\\b", "\\bassert\\b",
            "->", "::", "\\bimport\\b", "\\bpackage\\b", "\\bequals\\b", "\\bhashCode\\b", "\\btoString\\b",
            "Exact\\b", "\\bstatic \\{", "\"", "\\bSystem\\.(?!arraycopy\\b)", "\\bObject\\b", "\\bvar\\b",
            "\\b(Random|Thread|Runtime|Class|Exception)\\b", "while \\(true\\)", "for \\(;;\\)"};
        for (String n : never) {
            Matcher m = Pattern.compile(n).matcher(code);
            CHECK.holds("nothing like " + n, !m.find());
        }
        CHECK.holds("ASCII alone", source.chars().allMatch(c -> c < 127));
        int start = -1;
        String[] lines = source.split("\n");
        for (int i = 0; i < lines.length; i++) {
            if (lines[i].matches("( {4}| {8})\\w[^=;]*\\) \\{")) {
                start = i;
            } else if (start >= 0 && lines[i].matches(" {4}\\}| {8}\\}")) {
                CHECK.holds("short: " + lines[start].strip(), i - start < 60);
                start = -1;
            }
        }
    }
}
