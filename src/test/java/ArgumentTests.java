import java.lang.reflect.InvocationTargetException;
import java.lang.reflect.Method;
import java.util.Arrays;

/**
 * Promises 2 to 36, argument by argument: the first and the last number that are as told, and the numbers
 * next to them that are not; in the greatest town, in the least one, and in no TOWN.
 */
final class ArgumentTests extends TownTest {
    private static final Check CHECK = new Check("ArgumentTests");

    /** 9 PLACES, 5 PEOPLE, 6 DOGS; DOG 4 is shy, at 4. In the least town DOG 0 is shy, at 1. */
    private static final String GREATEST =
            "t9,30;m0,0,0;m1,9,1;m2,2,2;m3,3,1;m8,9,2;h0;t1;p2;k3;s4;h8;";
    private static final String LEAST = "t3,1;m2,0,0;s1;";

    private final String town;

    private ArgumentTests(String town) {
        this.town = town;
    }

    public static void main(String[] args) throws ReflectiveOperationException {
        ArgumentTests greatest = new ArgumentTests(GREATEST);
        greatest.rows();
        greatest.acts(9, 5, 6, 4);
        greatest.foretold(9, 5, 6);
        greatest.shows();
        greatest.byRows(5, 6);
        greatest.asked(6, 4);
        ArgumentTests least = new ArgumentTests(LEAST);
        least.rows();
        least.acts(3, 1, 1, 0);
        least.foretold(3, 1, 1);
        least.byRows(1, 1);
        least.asked(1, 0);
        new ArgumentTests("").noTown();
        CHECK.end();
    }

    /** ROW 0 to 7 of 12 shorts each, both IMAGES, one ACT, a TRACE; without a text no TOWN. */
    private DogKings made() {
        DogKings k = new DogKings();
        for (int row = 0; row < 8; row++) {
            k.row(row, 1, 12);
        }
        if (!town.isEmpty()) {
            tell(k, town);
            k.image(0);
            k.image(1);
            k.walk(0, 1);
            k.ask(0, 0);
        }
        return k;
    }

    private int answer(String name, int... arguments) throws ReflectiveOperationException {
        Class<?>[] types = new Class<?>[arguments.length];
        Arrays.fill(types, int.class);
        Method m = DogKings.class.getMethod(name, types);
        Object[] list = Arrays.stream(arguments).boxed().toArray();
        try {
            return (Integer) m.invoke(made(), list);
        } catch (InvocationTargetException e) {
            System.out.println(name + Arrays.toString(arguments) + " threw " + e.getCause());
            return LOW;
        }
    }

    private static int[] with(int[] arguments, int place, int v) {
        int[] others = arguments.clone();
        others[place] = v;
        return others;
    }

    private String call(String name, int... arguments) {
        return name + Arrays.toString(arguments) + (town.isEmpty() ? ", no TOWN" : " in " + town);
    }

    /** From first to last it is as told; what is not answers so below, and so above. */
    private void bounds(String name, int[] fine, int place, int first, int last, int below, int above)
            throws ReflectiveOperationException {
        for (int v : new int[] {first, last}) {
            int[] arguments = with(fine, place, v);
            CHECK.holds(call(name, arguments) + " is as told", answer(name, arguments) >= NONE);
        }
        for (int v : new int[] {first - 1, first - 2, LOW, LOW + 1}) {
            int[] arguments = with(fine, place, v);
            CHECK.due(call(name, arguments), answer(name, arguments), below);
        }
        for (int v : new int[] {last + 1, last + 2, HIGH, HIGH - 1}) {
            int[] arguments = with(fine, place, v);
            CHECK.due(call(name, arguments), answer(name, arguments), above);
        }
    }

    private void bad(String name, int[] fine, int place, int first, int last) throws ReflectiveOperationException {
        bounds(name, fine, place, first, last, BAD, BAD);
    }

    private static int[] of(int... numbers) {
        return numbers;
    }

    private void rows() throws ReflectiveOperationException {
        bad("row", of(0, 0, 1), 0, 0, 7);
        bad("row", of(0, 0, 1), 1, 0, 2);
        bounds("row", of(0, 0, 1), 2, 0, 40, SIZE, BAD);
        bad("set", of(0, 0, 1), 0, 0, 7);
        bounds("set", of(0, 0, 1), 1, 0, 11, PLACE, PLACE);
        bad("copy", of(0, 0, 1, 0, 3), 0, 0, 7);
        bounds("copy", of(0, 0, 1, 0, 3), 1, 0, 9, PLACE, PLACE);
        bad("copy", of(0, 0, 1, 0, 3), 2, 0, 7);
        bounds("copy", of(0, 0, 1, 0, 3), 3, 0, 9, PLACE, PLACE);
        bounds("copy", of(0, 0, 1, 0, 3), 4, 0, 12, PLACE, PLACE);
        bounds("copy", of(0, 4, 1, 0, 3), 4, 0, 8, PLACE, PLACE);
        bounds("copy", of(0, 0, 1, 12, 0), 4, 0, 0, PLACE, PLACE);
        bad("drop", of(0), 0, 0, 7);
    }

    private void acts(int places, int people, int dogs, int shy) throws ReflectiveOperationException {
        bad("feed", of(0), 0, 0, 255);
        bad("minutes", of(1), 0, 1, 24);
        bad("bones", of(0, 1), 0, 0, people - 1);
        bad("bones", of(0, 1), 1, 0, 9);
        bad("walk", of(0, 2), 0, 0, people - 1);
        bad("walk", of(0, 2), 1, 0, 2);
        bad("put", of(0, 5 % places), 0, 0, dogs - 1);
        bad("put", of(shy, 0), 1, 0, places - 1);
        bad("dog", of(0, 0), 0, 0, dogs - 1);
        bad("dog", of(0, 0), 1, 0, 3);
        bad("person", of(0, 0), 0, 0, people - 1);
        bad("person", of(0, 0), 1, 0, 6);
    }

    private void foretold(int places, int people, int dogs) throws ReflectiveOperationException {
        bad("ahead", of(0, 0), 0, 0, dogs - 1);
        bad("ahead", of(0, 0), 1, 0, 60);
        bad("goes", of(0, 0), 0, 0, people - 1);
        bad("goes", of(0, 0), 1, 0, 60);
        bad("crowned", of(1), 0, 1, 9);
        bad("heir", of(0), 0, 0, people - 1);
        bad("least", of(0), 0, 0, people - 1);
        bad("walks", of(0), 0, 0, people - 1);
        bad("cats", of(0, 0), 0, 0, places - 1);
        bad("cats", of(0, 0), 1, 0, 1);
        bad("packs", of(0), 0, 0, people - 1);
        bad("asleep", of(0, 1, 0), 0, 0, people - 1);
        bad("asleep", of(0, 1, 0), 1, 0, 10);
        bad("asleep", of(0, 1, 0), 2, 0, 1);
        bad("drawn", of(1, 1, 0), 0, 0, 9);
        bad("drawn", of(1, 1, 0), 1, 1, 999999);
        bad("drawn", of(1, 1, 0), 2, 0, 1);
        bad("image", of(0), 0, 0, 1);
        bad("restore", of(0), 0, 0, 1);
    }

    private void shows() throws ReflectiveOperationException {
        bad("shows", of(1, 2, 1), 0, 0, 4);
        bad("shows", of(2, 1, 1), 1, 0, 4);
        bad("shows", of(1, 2, 1), 2, 0, 2);
        for (int p = 0; p < 5; p++) {
            CHECK.due(call("shows", p, p, 1), answer("shows", p, p, 1), BAD);
        }
    }

    private void byRows(int people, int dogs) throws ReflectiveOperationException {
        bad("fits", of(0, 0, 0, 1, 0), 0, 0, dogs - 1);
        bad("fits", of(0, 0, 0, 1, 0), 1, 0, 7);
        bounds("fits", of(0, 0, 0, 5, 0), 2, 0, 7, PLACE, PLACE);
        bad("fits", of(0, 0, 0, 1, 0), 3, 1, 12);
        bad("fits", of(0, 0, 0, 1, 0), 4, 0, 1);
        bad("suits", of(0, 0, 0, 0, 1, 0), 0, 0, people - 1);
        bad("suits", of(0, 0, 0, 0, 1, 0), 1, 0, dogs - 1);
        bad("suits", of(0, 0, 0, 0, 1, 0), 2, 0, 7);
        bounds("suits", of(0, 0, 0, 0, 5, 0), 3, 0, 7, PLACE, PLACE);
        bad("suits", of(0, 0, 0, 0, 1, 0), 4, 1, 12);
        bad("suits", of(0, 0, 0, 0, 1, 0), 5, 0, 1);
        for (int n = 8; n <= 12; n++) {
            CHECK.due(call("fits", 0, 0, 5, n, 0), answer("fits", 0, 0, 5, n, 0), PLACE);
            CHECK.due(call("suits", 0, 0, 0, 5, n, 0), answer("suits", 0, 0, 0, 5, n, 0), PLACE);
        }
    }

    private void asked(int dogs, int shy) throws ReflectiveOperationException {
        bad("kind", of(0), 0, 0, dogs - 1);
        bad("as", of(0, 0), 0, 0, dogs - 1);
        bad("as", of(shy, 0), 1, 0, 5);
        bad("ask", of(0, 0), 0, 0, dogs - 1);
        bad("ask", of(0, 0), 1, 0, 1);
        bad("count", of(0), 0, 0, 9);
    }

    /** Without a TOWN there is no PERSON, no DOG, no PLACE: what names one is BAD by any number. */
    private void noTown() throws ReflectiveOperationException {
        String[] named = {"bones2", "walk2", "put2", "dog2", "person2", "ahead2", "goes2", "heir1", "least1", "walks1",
            "cats2", "shows3", "packs1", "fits5", "suits6", "asleep3", "kind1", "as2", "ask2"};
        for (String name : named) {
            int n = name.charAt(name.length() - 1) - '0';
            for (int v : of(LOW, -1, 0, 1, 2, HIGH)) {
                int[] arguments = new int[n];
                Arrays.fill(arguments, v);
                String method = name.substring(0, name.length() - 1);
                CHECK.due(call(method, arguments), answer(method, arguments), BAD);
            }
        }
        for (int v : of(LOW, 0, 1, HIGH)) {
            CHECK.due(call("minutes", v), answer("minutes", v), STATE);
            CHECK.due(call("crowned", v), answer("crowned", v), STATE);
            CHECK.due(call("drawn", v, v, v), answer("drawn", v, v, v), STATE);
            CHECK.due(call("trace", v), answer("trace", v), NONE);
            int of = v == 0 || v == 1 ? STATE : BAD;
            CHECK.due(call("image", v), answer("image", v), of);
            CHECK.due(call("restore", v), answer("restore", v), of);
        }
        CHECK.due(call("hangs"), answer("hangs"), STATE);
        CHECK.due(call("undo"), answer("undo"), STATE);
        rows();
        bad("feed", of(0), 0, 0, 255);
        bad("count", of(0), 0, 0, 9);
    }
}
