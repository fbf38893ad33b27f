import java.io.IOException;
import java.lang.reflect.Array;
import java.lang.reflect.Constructor;
import java.lang.reflect.Field;
import java.lang.reflect.Method;
import java.lang.reflect.Modifier;
import java.nio.file.Files;
import java.nio.file.Path;
import java.util.ArrayList;
import java.util.Arrays;
import java.util.Collections;
import java.util.IdentityHashMap;
import java.util.List;
import java.util.Map;
import java.util.Set;
import java.util.TreeMap;
import java.util.TreeSet;
import java.util.regex.Matcher;
import java.util.regex.Pattern;
import java.util.stream.Collectors;

/** The rules of ../shared/LANGUAGE.md that can be seen from outside; run where the project lies. */
final class FormTest {
    private static final Check CHECK = new Check("FormTest");

    private static final String FACE = "row(int,int,int) set(int,int,int) copy(int,int,int,int,int) drop(int) feed(int)"
            + " town() fault() minutes(int) bones(int,int) walk(int,int) put(int,int) undo() dog(int,int) person(int,int)"
            + " ahead(int,int) goes(int,int) crowned(int) heir(int) least(int) walks(int) cats(int,int)"
            + " shows(int,int,int) packs(int) hangs() fits(int,int,int,int,int) suits(int,int,int,int,int,int)"
            + " asleep(int,int,int) drawn(int,int,int) image(int) restore(int) kind(int) as(int,int) ask(int,int)"
            + " trace(int) count(int) status()";

    private FormTest() {
    }

    public static void main(String[] args) throws IOException, IllegalAccessException {
        String source = Files.readString(Path.of("src/main/java/DogKings.java"));
        face();
        classes();
        text(source);
        depth(source);
        recursion(source);
        objects(source);
        CHECK.end();
    }

    /** Rule 1. */
    private static void face() {
        Set<String> open = new TreeSet<>();
        Set<String> names = new TreeSet<>();
        for (Method m : DogKings.class.getDeclaredMethods()) {
            if (!Modifier.isPrivate(m.getModifiers())) {
                open.add(m.getName() + Arrays.stream(m.getParameterTypes()).map(Class::getSimpleName)
                        .collect(Collectors.joining(",", "(", ")")));
                names.add(m.getName());
                CHECK.holds(m + " is public, answers an int", m.getReturnType() == int.class
                        && m.getModifiers() == Modifier.PUBLIC);
            }
        }
        CHECK.holds("the methods are " + open, open.equals(new TreeSet<>(Arrays.asList(FACE.split(" ")))));
        for (Class<?> c : all()) {
            for (Method m : c.getDeclaredMethods()) {
                CHECK.holds(m + " bears no public name", c == DogKings.class
                        && !Modifier.isPrivate(m.getModifiers()) || !names.contains(m.getName()));
            }
        }
        Set<String> fields = new TreeSet<>();
        for (Field f : DogKings.class.getDeclaredFields()) {
            if (!Modifier.isPrivate(f.getModifiers())) {
                fields.add(f.getName());
            }
        }
        CHECK.holds("the constants are " + fields, fields.equals(Set.of("NONE", "BAD", "STATE", "FULL")));
        Constructor<?>[] constructors = DogKings.class.getDeclaredConstructors();
        CHECK.holds("one public constructor", constructors.length == 1
                && constructors[0].getModifiers() == Modifier.PUBLIC && constructors[0].getParameterCount() == 0);
        CHECK.holds("public, final", DogKings.class.getModifiers() == (Modifier.PUBLIC | Modifier.FINAL));
    }

    private static Set<Class<?>> all() {
        Set<Class<?>> set = new java.util.LinkedHashSet<>(Arrays.asList(DogKings.class.getDeclaredClasses()));
        set.add(DogKings.class);
        return set;
    }

    /** Rules 2, 5, 11. */
    private static void classes() {
        CHECK.holds("some twelve classes", all().size() <= 12);
        for (Class<?> c : all()) {
            CHECK.holds(c + " is static, not public", c == DogKings.class
                    || Modifier.isStatic(c.getModifiers()) && !Modifier.isPublic(c.getModifiers()));
            CHECK.due("classes inside " + c, c == DogKings.class ? 0 : c.getDeclaredClasses().length, 0);
            int fields = 0;
            for (Field f : c.getDeclaredFields()) {
                if (Modifier.isStatic(f.getModifiers())) {
                    CHECK.holds(f + " is final", Modifier.isFinal(f.getModifiers()));
                } else {
                    fields++;
                }
            }
            CHECK.holds(c + " has some twenty fields", fields <= 20);
            for (Method m : c.getDeclaredMethods()) {
                CHECK.holds(m + " takes seven parameters at most", m.getParameterCount() <= 7);
            }
        }
    }

    /** Rules 4, 6, 10, 13, and how long a method is. */
    private static void text(String source) {
        String code = source.replaceAll("(?s)/\\*.*?\\*/", "").replaceAll("//[^\n]*", "");
        String[] never = {"\\bthrows?\\b", "\\btry\\b", "\\bcatch\\b", "\\bsynchronized\\b", "\\bassert\\b",
            "->", "::", "\\bimport\\b", "\\bpackage\\b", "\\bequals\\b", "\\bhashCode\\b", "\\btoString\\b",
            "Exact\\b", "\\bstatic \\{", "\"", "\\bSystem\\.(?!arraycopy\\b)", "\\bObject\\b", "\\bvar\\b",
            "\\b(Random|Thread|Runtime|Class|Exception)\\b", "while \\(true\\)", "for \\(;;\\)"};
        for (String n : never) {
            Matcher m = Pattern.compile(n).matcher(code);
            CHECK.holds("nothing like " + n, !m.find());
        }
        CHECK.holds("ASCII alone", source.chars().allMatch(c -> c < 127));
        int start = -1;
        String[] lines = source.split("\n");
        for (int i = 0; i < lines.length; i++) {
            if (lines[i].matches("( {4}| {8})\\w[^=;]*\\) \\{")) {
                start = i;
            } else if (start >= 0 && lines[i].matches(" {4}\\}| {8}\\}")) {
                CHECK.holds("short: " + lines[start].strip(), i - start < 60);
                start = -1;
            }
        }
    }

    /** Rule 11: calls that are no recursion go at most eight deep. */
    private static void depth(String source) {
        Map<String, String> bodies = new TreeMap<>();
        Matcher m = Pattern.compile("(?m)^( {4}| {8})(?:public |private |static )*[\\w\\[\\]]+ (\\w+)\\([^;{]*\\) \\{$(?s)(.*?)\\n\\1\\}$")
                .matcher(source);
        while (m.find()) {
            // methods of one name are taken together: that can only make a chain longer
            bodies.merge(m.group(2), m.group(3), String::concat);
        }
        CHECK.holds("all methods are seen, " + bodies.size(), bodies.keySet().containsAll(
                List.of("row", "suits", "status", "troubleWith", "become", "countOthers", "takeBack", "meets", "gives", "begins")));
        for (String name : bodies.keySet()) {
            List<String> chain = longest(name, bodies, new ArrayList<>());
            CHECK.holds("eight deep at most: " + chain, chain.size() <= 8);
        }
    }

    /** Rule 8: what calls itself is private, and carries how deep it is, or how deep it may go yet. */
    private static void recursion(String source) {
        Matcher m = Pattern.compile("(?m)^( {4}| {8})(\\w[\\w\\[\\] ]*) (\\w+)\\(([^;{]*)\\) \\{$(?s)(.*?)\\n\\1\\}$").matcher(source);
        Set<String> recursive = new TreeSet<>();
        while (m.find()) {
            if (Pattern.compile("(?<![.\\w])" + m.group(3) + "\\(").matcher(m.group(5)).find()) {
                recursive.add(m.group(3));
                CHECK.holds(m.group(3) + " calls itself and is private", m.group(2).startsWith("private "));
                CHECK.holds(m.group(3) + " calls itself and carries its depth", m.group(4).matches(".*int (depth|turns)"));
            }
        }
        CHECK.holds("these call themselves: " + recursive, recursive.equals(Set.of("outcome", "gives")));
    }

    private static List<String> longest(String name, Map<String, String> bodies, List<String> open) {
        open.add(name);
        List<String> best = new ArrayList<>();
        Matcher call = Pattern.compile("\\b(\\w+)\\(").matcher(bodies.get(name));
        while (call.find()) {
            String called = call.group(1);
            if (bodies.containsKey(called) && !open.contains(called)) {
                List<String> chain = longest(called, bodies, open);
                if (chain.size() > best.size()) {
                    best = chain;
                }
            }
        }
        open.remove(open.size() - 1);
        best.add(0, name);
        return best;
    }

    /** Rule 12, and the room that all calls of one run have: objects are made by constructors alone, and few. */
    private static void objects(String source) throws IllegalAccessException {
        for (String line : source.split("\n")) {
            if (line.matches(".*\\bnew \\w.*")) {
                CHECK.holds("a field's, or a constructor's: " + line.strip(),
                        line.matches(" +(private )?final .* = .*") || line.strip().equals("before[i] = new Town();"));
            }
        }
        DogKings k = new DogKings();
        Set<Object> seen = Collections.newSetFromMap(new IdentityHashMap<>());
        int elements = elements(k, seen);
        CHECK.holds(seen.size() + " objects, 500 at most", seen.size() <= 500);
        CHECK.holds(elements + " fields and elements, 5000 at most", elements <= 5000);
    }

    private static int elements(Object o, Set<Object> seen) throws IllegalAccessException {
        if (o == null || !seen.add(o)) {
            return 0;
        }
        int sum = 0;
        if (o.getClass().isArray()) {
            sum = Array.getLength(o);
            for (int i = 0; i < Array.getLength(o) && !o.getClass().getComponentType().isPrimitive(); i++) {
                sum += elements(Array.get(o, i), seen);
            }
            return sum;
        }
        for (Field f : o.getClass().getDeclaredFields()) {
            if (!Modifier.isStatic(f.getModifiers())) {
                f.setAccessible(true);
                sum += 1 + (f.getType().isPrimitive() ? 0 : elements(f.get(o), seen));
            }
        }
        return sum;
    }
}
