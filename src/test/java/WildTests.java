import java.lang.reflect.InvocationTargetException;
import java.lang.reflect.Method;
import java.lang.reflect.Modifier;
import java.util.Arrays;
import java.util.Comparator;
import java.util.Random;

/**
 * LANGUAGE.md, rule 7: no call throws, for any arguments in any state. Each method by all pairs of numbers
 * at the ends of what there is (drawn ones for more arguments), as Told answers it.
 */
final class WildTests {
    private static final int[] NUMBERS = {
        Integer.MIN_VALUE, Integer.MIN_VALUE + 1, -1000000, -2, -1, 0, 1, 2, 3, 4, 5, 6, 7, 8, 9, 10, 11, 12, 13, 16,
        23, 24, 25, 39, 40, 41, 59, 60, 61, 89, 90, 91, 127, 128, 255, 256, 65535, 65536, 999999, 1000000, 16777216,
        Integer.MAX_VALUE - 40, Integer.MAX_VALUE - 1, Integer.MAX_VALUE
    };
    private static final String[] TOWNS = {
        "", "t3,1;m0,0,0;", "t3,30;m2,9,1;h0;", "t9,1;m8,0,2;m0,0,1;s8;k0;",
        "t9,30;m0,1,1;m1,9,2;m2,2,2;m3,3,1;m8,9,2;h0;t1;p2;k3;s4;h8;"
    };
    private static final int CALLS_OF_ONE = 400;

    private final Check check;
    private final String town;
    private DogKings built;
    private Told told;
    private int calls;

    private WildTests(Check check, String town) throws ReflectiveOperationException {
        this.check = check;
        this.town = town;
        begin();
    }

    public static void main(String[] args) throws ReflectiveOperationException {
        Check check = new Check("WildTests");
        Method[] face = DogKings.class.getDeclaredMethods();
        Arrays.sort(face, Comparator.comparing(Method::getName));
        Random random = new Random(7);
        for (String town : TOWNS) {
            WildTests t = new WildTests(check, town);
            for (Method m : face) {
                if (Modifier.isPublic(m.getModifiers())) {
                    t.all(m, random);
                }
            }
        }
        check.end();
    }

    /** A row of each LANE, the town, some MINUTES: both objects alike. */
    private void begin() throws ReflectiveOperationException {
        built = new DogKings();
        told = new Told();
        for (int row = 0; row < 3; row++) {
            both(named("row"), row, row, 13 * row);
        }
        for (char c : town.toCharArray()) {
            both(named("feed"), (int) c);
        }
        both(named("town"));
        both(named("minutes"), 3);
        both(named("image"), 1);
        calls = 0;
    }

    private static Method named(String name) {
        return Arrays.stream(DogKings.class.getDeclaredMethods()).filter(m -> m.getName().equals(name)).findFirst().get();
    }

    private void all(Method m, Random random) throws ReflectiveOperationException {
        int n = m.getParameterCount();
        if (n == 0) {
            call(m);
        } else if (n == 1) {
            for (int a : NUMBERS) {
                call(m, a);
            }
        } else if (n == 2) {
            for (int a : NUMBERS) {
                for (int b : NUMBERS) {
                    call(m, a, b);
                }
            }
        } else {
            for (int i = 0; i < 3000; i++) {
                Object[] list = new Object[n];
                for (int j = 0; j < n; j++) {
                    // small ones more often, or nothing but the first argument would ever be looked at
                    list[j] = random.nextInt(3) > 0 ? random.nextInt(4) : NUMBERS[random.nextInt(NUMBERS.length)];
                }
                call(m, list);
            }
        }
    }

    private void call(Method m, Object... list) throws ReflectiveOperationException {
        if (calls >= CALLS_OF_ONE) {
            begin();
        }
        calls++;
        both(m, list);
    }

    private void both(Method m, Object... list) throws ReflectiveOperationException {
        long got;
        try {
            got = (Integer) m.invoke(built, list);
        } catch (InvocationTargetException e) {
            System.out.println(m.getName() + Arrays.toString(list) + " threw " + e.getCause());
            got = Long.MIN_VALUE;
        }
        long want;
        try {
            want = (Integer) Told.class.getDeclaredMethod(m.getName(), m.getParameterTypes()).invoke(told, list);
        } catch (InvocationTargetException e) {
            if (!(e.getCause() instanceof Told.Refusal)) {
                throw e;
            }
            want = ((Told.Refusal) e.getCause()).answer;
        }
        check.due(m.getName() + Arrays.toString(list) + " in " + town, got, want);
    }
}
