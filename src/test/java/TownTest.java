/** What the tests of promises share: the refusals' numbers, and how a TOWN and a ROW are told. */
abstract class TownTest {
    static final int NONE = DogKings.NONE, BAD = DogKings.BAD;
    static final int STATE = DogKings.STATE, FULL = DogKings.FULL;
    static final int NULL = -1000011, PLACE = -1000012, KIND = -1000013;
    static final int SIZE = -1000014, STORE = -1000015;
    static final int LOW = Integer.MIN_VALUE, HIGH = Integer.MAX_VALUE;

    static int tell(DogKings k, String text) {
        for (int i = 0; i < text.length(); i++) {
            k.feed(text.charAt(i));
        }
        return k.town();
    }

    /** A new object with a TOWN; it counts as wrong if the text is not read. */
    static DogKings in(Check check, String text) {
        DogKings k = new DogKings();
        int dogs = tell(k, text);
        check.holds("the text " + text + " is read", dogs >= 0);
        return k;
    }

    static void rowOf(DogKings k, int row, int... items) {
        k.row(row, 0, items.length);
        for (int i = 0; i < items.length; i++) {
            k.set(row, i, items[i]);
        }
    }

    /** So many MINUTES, as many calls as that needs. */
    static void pass(DogKings k, int minutes) {
        for (int left = minutes; left > 0; left -= 24) {
            k.minutes(Math.min(24, left));
        }
    }
}
