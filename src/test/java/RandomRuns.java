import java.lang.reflect.InvocationTargetException;
import java.lang.reflect.Method;
import java.lang.reflect.Modifier;
import java.util.ArrayList;
import java.util.Comparator;
import java.util.List;
import java.util.Map;
import java.util.Random;
import java.util.TreeMap;

/** Runs of calls, drawn by fixed seeds, on the class and on Told: each answer must be the same. */
final class RandomRuns {
    private static final int RUNS = 3000;
    private static final int CALLS = 512;

    private final Random random;
    private final Check check;
    private final DogKings built = new DogKings();
    private final Told told = new Told();
    private final StringBuilder calls = new StringBuilder();
    private final Map<String, Integer> sums;

    private RandomRuns(Check check, Map<String, Integer> sums, long seed) {
        this.check = check;
        this.sums = sums;
        random = new Random(seed);
    }

    public static void main(String[] args) throws ReflectiveOperationException {
        Check check = new Check("RandomRuns");
        List<Method> face = new ArrayList<>();
        for (Method m : DogKings.class.getDeclaredMethods()) {
            if (Modifier.isPublic(m.getModifiers())) {
                face.add(m);
            }
        }
        face.sort(Comparator.comparing(Method::getName));
        check.due("methods of the face", face.size(), 36);
        Map<String, Integer> sums = new TreeMap<>();
        int runs = args.length > 0 ? Integer.parseInt(args[0]) : RUNS;
        long first = args.length > 1 ? Long.parseLong(args[1]) : 1;
        for (long seed = first; seed < first + runs; seed++) {
            new RandomRuns(check, sums, seed).run(face);
        }
        if (args.length > 2) {
            System.out.println(sums);
        }
        for (Method m : face) {
            check.holds(m.getName() + " answered something", runs < 100 || sums.getOrDefault(m.getName() + " fine", 0) > 50);
        }
        check.end();
    }

    private void run(List<Method> face) throws ReflectiveOperationException {
        int made = 0;
        for (int i = 0; i < 2; i++) {
            made += row(face, i);
        }
        for (made += read(face, text()); made < CALLS; made++) {
            int kind = random.nextInt(60);
            if (kind == 0 && made + 92 < CALLS) {
                made += read(face, text());
            } else if (kind == 1 && made + 92 < CALLS) {
                made += read(face, broken(text()));
            } else if (kind == 2) {
                made += tell(face);
            } else {
                Method m = face.get(random.nextInt(face.size()));
                // a byte more would spoil the next text
                if (m.getName().equals("feed") && random.nextInt(8) > 0 || m.getName().equals("drop") && random.nextInt(3) > 0
                        || m.getName().equals("town") && random.nextInt(3) > 0) {
                    continue;
                }
                call(m, arguments(m));
            }
        }
    }

    private Method named(List<Method> face, String name) {
        for (Method m : face) {
            if (m.getName().equals(name)) {
                return m;
            }
        }
        throw new IllegalStateException(name);
    }

    private int row(List<Method> face, int i) throws ReflectiveOperationException {
        call(named(face, "row"), i, random.nextInt(3), random.nextInt(41));
        return 1;
    }

    private int read(List<Method> face, String text) throws ReflectiveOperationException {
        for (int i = 0; i < text.length(); i++) {
            call(named(face, "feed"), (int) text.charAt(i));
        }
        call(named(face, "town"));
        return text.length() + 1;
    }

    /** A DOG's own way into a ROW, now and then with one PLACE that is another; then it is asked for. */
    private int tell(List<Method> face) throws ReflectiveOperationException {
        int dog = random.nextInt(6);
        int n = 1 + random.nextInt(6);
        int row = random.nextInt(2);
        int i = random.nextInt(4);
        call(named(face, "row"), row, random.nextInt(3), i + n + random.nextInt(3));
        for (int m = 1; m <= n; m++) {
            int place = random.nextInt(30) == 0 ? random.nextInt(9) : Math.max(0, built.ahead(dog, m));
            call(named(face, "set"), row, i + m - 1, place);
        }
        call(named(face, "fits"), dog, row, i, n, 0);
        call(named(face, "fits"), dog, row, i, n, 1);
        int person = random.nextInt(5);
        call(named(face, "suits"), person, dog, row, i, n, 0);
        call(named(face, "suits"), person, dog, row, i, n, 1);
        return 5 + n;
    }

    private String text() {
        int places = 3 + random.nextInt(7);
        int minutes = random.nextInt(3) == 0 ? 1 + random.nextInt(30) : 1 + random.nextInt(9);
        StringBuilder s = new StringBuilder();
        s.append("t").append(places).append(",").append(minutes).append(";");
        int people = 1 + random.nextInt(5);
        for (int p = 0; p < people; p++) {
            s.append("m").append(number(random.nextInt(places))).append(",").append(number(random.nextInt(10)))
                    .append(",").append(number(random.nextInt(3))).append(";");
        }
        int dogs = random.nextInt(20) == 0 ? 0 : 1 + random.nextInt(6);
        for (int d = 0; d < dogs; d++) {
            s.append("htpks".charAt(random.nextInt(5))).append(number(random.nextInt(places))).append(";");
        }
        return s.toString();
    }

    private String number(int n) {
        return random.nextInt(40) == 0 ? "0" + n : "" + n;
    }

    private String broken(String text) {
        StringBuilder s = new StringBuilder(text);
        int place = random.nextInt(s.length());
        String bytes = "tmhpks,;0123456789 a\u00ff\u0000";
        char other = bytes.charAt(random.nextInt(bytes.length()));
        switch (random.nextInt(5)) {
            case 0: s.setLength(place); break;
            case 1: s.deleteCharAt(place); break;
            case 2: s.setCharAt(place, other); break;
            case 3: s.insert(place, other); break;
            default: s.append(random.nextBoolean() ? "m0,0,0;" : "h0;h0;h0;h0;h0;h0;"); break;
        }
        return s.substring(0, Math.min(90, s.length()));
    }

    private Object[] arguments(Method m) {
        Object[] list = new Object[m.getParameterCount()];
        for (int i = 0; i < list.length; i++) {
            list[i] = argument(m.getName(), i);
        }
        return list;
    }

    private int argument(String name, int i) {
        int wild = random.nextInt(150);
        if (wild == 0) {
            int[] edges = {Integer.MIN_VALUE, Integer.MAX_VALUE, -1, -2, 41, 256, 1000000, 65536, 25, 61};
            return edges[random.nextInt(edges.length)];
        }
        switch (name + i) {
            case "row0": return random.nextInt(9);
            case "row1": return random.nextInt(3);
            case "row2": return random.nextInt(43) - 1;
            case "set0": case "copy0": case "copy2": case "drop0": case "fits1": case "suits2":
                return random.nextInt(random.nextInt(4) == 0 ? 9 : 2);
            case "set1": return random.nextInt(42) - 1;
            case "set2": return random.nextInt(5) == 0 ? random.nextInt() : random.nextInt(9);
            case "copy1": case "copy3": return random.nextInt(12) - 1;
            case "copy4": return random.nextInt(12) - 1;
            case "feed0": return random.nextInt(256);
            case "minutes0": return random.nextInt(20) == 0 ? random.nextInt(26) : 1 + random.nextInt(3);
            case "ahead1": case "goes1": return random.nextInt(random.nextBoolean() ? 62 : 8);
            case "crowned0": case "bones1": return random.nextInt(11);
            case "put1": case "cats0": return random.nextInt(9);
            case "fits2": case "suits3": return random.nextInt(4) - (random.nextInt(10) == 0 ? 1 : 0);
            case "fits3": case "suits4": return random.nextInt(10) == 0 ? random.nextInt(15) : 1 + random.nextInt(3);
            case "fits4": case "suits5": case "cats1": case "asleep2": case "drawn2": case "ask1":
                return random.nextInt(20) == 0 ? 2 : random.nextInt(2);
            case "asleep1": return random.nextInt(11);
            case "drawn0": return random.nextInt(10);
            case "drawn1": return random.nextInt(20) == 0 ? random.nextInt(2) * 1000000 : 1 + random.nextInt(999999);
            case "image0": case "restore0": return random.nextInt(2);
            case "walk1": case "shows2": return random.nextInt(random.nextInt(10) == 0 ? 4 : 3);
            case "trace0": return random.nextInt(8);
            case "count0": return random.nextInt(11);
            case "dog1": return random.nextInt(5);
            case "person1": return random.nextInt(8);
            case "as1": return random.nextInt(7);
            default: return random.nextInt(random.nextInt(3) == 0 ? 7 : 3);
        }
    }

    private void call(Method m, Object... list) throws ReflectiveOperationException {
        calls.append(m.getName()).append(java.util.Arrays.toString(list)).append(' ');
        long got;
        try {
            got = (Integer) m.invoke(built, list);
        } catch (InvocationTargetException e) {
            System.out.println(calls + "threw " + e.getCause());
            got = Long.MIN_VALUE;
        }
        int want = toldBy(m, list);
        sums.merge(m.getName() + (want <= -1000000 ? " " + want : " fine"), 1, Integer::sum);
        if (got != want) {
            System.out.println(calls);
        }
        check.due(m.getName() + java.util.Arrays.toString(list), got, want);
    }

    private int toldBy(Method m, Object[] list) throws ReflectiveOperationException {
        try {
            return (Integer) Told.class.getDeclaredMethod(m.getName(), m.getParameterTypes()).invoke(told, list);
        } catch (InvocationTargetException e) {
            if (e.getCause() instanceof Told.Refusal) {
                return ((Told.Refusal) e.getCause()).answer;
            }
            throw e;
        }
    }
}
