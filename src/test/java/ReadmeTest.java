import java.io.IOException;
import java.lang.reflect.Method;
import java.lang.reflect.Modifier;
import java.nio.file.Files;
import java.nio.file.Path;
import java.util.Arrays;
import java.util.Set;
import java.util.TreeSet;
import java.util.regex.Matcher;
import java.util.regex.Pattern;

/** README.md's example answers as it says, and its tables name all there is; run where the project lies. */
final class ReadmeTest extends TownTest {
    private static final Check CHECK = new Check("ReadmeTest");
    private static final Pattern TEXT = Pattern.compile("for \\(char c : \"([^\"]*)\"\\.toCharArray\\(\\)\\)");
    private static final Pattern CALL = Pattern.compile("(?m)^k\\.(\\w+)\\(([-0-9, ]*)\\); +// (-?\\d+): ");

    private ReadmeTest() {
    }

    public static void main(String[] args) throws IOException, ReflectiveOperationException {
        String readme = Files.readString(Path.of("README.md"));
        example(readme);
        tables(readme);
        CHECK.end();
    }

    private static void example(String readme) throws ReflectiveOperationException {
        DogKings k = new DogKings();
        Matcher text = TEXT.matcher(readme);
        CHECK.holds("a text", text.find());
        for (char c : text.group(1).toCharArray()) {
            k.feed(c);
        }
        int calls = 0;
        for (Matcher call = CALL.matcher(readme); call.find(); calls++) {
            CHECK.due(call.group(), answer(k, call.group(1), call.group(2)), Long.parseLong(call.group(3)));
        }
        CHECK.due("calls that are seen", calls, readme.lines().filter(line -> line.startsWith("k.")).count());
    }

    private static int answer(DogKings k, String name, String list) throws ReflectiveOperationException {
        String[] words = list.isEmpty() ? new String[0] : list.split(", ");
        Class<?>[] types = new Class<?>[words.length];
        Arrays.fill(types, int.class);
        Object[] values = Arrays.stream(words).map(Integer::valueOf).toArray();
        return (int) DogKings.class.getMethod(name, types).invoke(k, values);
    }

    private static void tables(String readme) {
        Set<String> named = new TreeSet<>();
        for (String row : readme.lines().filter(line -> line.startsWith("| `")).toList()) {
            Matcher name = Pattern.compile("`(\\w+)`").matcher(row.substring(0, row.indexOf('|', 1)));
            while (name.find()) {
                CHECK.holds(name.group(1) + " is named once", named.add(name.group(1)));
            }
        }
        Set<String> all = new TreeSet<>();
        for (Method m : DogKings.class.getDeclaredMethods()) {
            if (Modifier.isPublic(m.getModifiers())) {
                all.add(m.getName());
            }
        }
        all.add("DogKings");
        for (Class<?> c : DogKings.class.getDeclaredClasses()) {
            all.add(c.getSimpleName());
        }
        CHECK.holds("named are " + named, named.equals(all));
    }
}
