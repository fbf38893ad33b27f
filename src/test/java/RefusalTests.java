import java.util.ArrayList;
import java.util.List;
import java.util.function.ToIntFunction;

/**
 * What is refused, or found, changes nothing but status(); what only tells changes nothing (but THE TRACE
 * by an ask, status() by a ROW or as()). Of two objects made alike one is called; then all is read of both.
 */
final class RefusalTests extends TownTest {
    private static final Check CHECK = new Check("RefusalTests");
    /** status() of rich() ahead of the call. */
    private static final int STORED = 5;

    /** How an object is made. */
    private interface Maker {
        DogKings make();
    }

    private RefusalTests() {
    }

    public static void main(String[] args) {
        badRows();
        badActs();
        badForetold();
        badByRows();
        badAsked();
        states();
        full();
        findings();
        noTown();
        whatTells();
        whatTellsByRows();
        CHECK.end();
    }

    // ---- how it is seen

    /** Has all that can be changed: ROWS, bytes on the tape, 24 ACTS, a FAULT, two IMAGES, a TRACE, a finding. */
    private static DogKings rich() {
        DogKings k = new DogKings();
        tell(k, "t4,2;m1,2,1;m3,4,0;h1;s3;");
        k.bones(1, 3);
        k.minutes(3);
        k.image(0);
        tell(k, "t6,3;m1,4,1;m3,2,2;h0;t4;p2;k0;s4;");
        k.minutes(2);
        k.image(1);
        tell(k, "t10");
        k.minutes(16);
        k.bones(0, 4);
        k.walk(1, 0);
        k.put(2, 5);
        k.minutes(5);
        k.bones(1, 2);
        k.ask(1, 0);
        rowOf(k, 0, 1, 2, 3);
        k.row(1, 1, 2);
        k.row(7, 2, 0);
        k.feed('t');
        k.feed('5');
        k.copy(0, 0, 1, 0, 1);
        return k;
    }

    /** All that can be read of an object, status() first; what can be read by changes alone is changed. */
    private static List<Integer> read(DogKings k) {
        List<Integer> all = new ArrayList<>();
        all.add(k.status());
        all.add(k.fault());
        for (int i = 0; i < 7; i++) {
            all.add(k.trace(i));
        }
        readTown(k, all);
        for (int i = 0; i < 3; i++) {
            all.add(k.fits(0, 0, i, 1, 1));
        }
        for (int i = 0; i < 2; i++) {
            all.add(k.fits(0, 1, i, 1, 1));
        }
        for (int row = 0; row < 8; row++) {
            all.add(k.set(row, 0, 70000));
            all.add(k.drop(row));
        }
        for (int n = 0; n < 25; n++) {
            all.add(k.undo());
            all.add(k.count(5));
            all.add(k.person(n % 2, 3));
            all.add(k.person(1 - n % 2, 4));
            all.add(k.dog(2, 0));
        }
        for (int image = 0; image < 2; image++) {
            all.add(k.restore(image));
            readTown(k, all);
        }
        all.add(tell(k, ",1;m0,0,0;h4;"));
        readTown(k, all);
        return all;
    }

    private static void readTown(DogKings k, List<Integer> all) {
        for (int what = 0; what < 10; what++) {
            all.add(k.count(what));
        }
        for (int p = 0; p < 2; p++) {
            for (int what = 0; what < 6; what++) {
                all.add(k.person(p, what));
            }
        }
        for (int d = 0; d < 5; d++) {
            all.add(k.kind(d));
            all.add(k.dog(d, 0));
            all.add(k.dog(d, 1));
        }
    }

    private static void changesNothing(String what, Maker maker, int answer, int status, ToIntFunction<DogKings> call) {
        DogKings called = maker.make();
        CHECK.due(what, call.applyAsInt(called), answer);
        List<Integer> got = read(called);
        List<Integer> want = read(maker.make());
        want.set(0, status);
        for (int i = 0; i < want.size(); i++) {
            CHECK.due("number " + i + " behind " + what, got.get(i), want.get(i));
        }
    }

    private static void bad(String what, ToIntFunction<DogKings> call) {
        changesNothing(what, RefusalTests::rich, BAD, STORED, call);
    }

    // ---- BAD

    private static void badRows() {
        bad("row(8, 0, 1)", k -> k.row(8, 0, 1));
        bad("row(-1, 0, 1)", k -> k.row(-1, 0, 1));
        bad("row(0, 3, 1)", k -> k.row(0, 3, 1));
        bad("row(0, -1, 1)", k -> k.row(0, -1, 1));
        bad("row(0, 1, 41)", k -> k.row(0, 1, 41));
        bad("row(2, 1, 41)", k -> k.row(2, 1, 41));
        bad("set(8, 0, 1)", k -> k.set(8, 0, 1));
        bad("set(-1, 0, 1)", k -> k.set(-1, 0, 1));
        bad("copy(8, 0, 0, 0, 1)", k -> k.copy(8, 0, 0, 0, 1));
        bad("copy(0, 0, -1, 0, 1)", k -> k.copy(0, 0, -1, 0, 1));
        bad("drop(8)", k -> k.drop(8));
        bad("drop(-1)", k -> k.drop(-1));
    }

    private static void badActs() {
        bad("feed(256)", k -> k.feed(256));
        bad("feed(-1)", k -> k.feed(-1));
        bad("minutes(0)", k -> k.minutes(0));
        bad("minutes(25)", k -> k.minutes(25));
        bad("bones(2, 1)", k -> k.bones(2, 1));
        bad("bones(-1, 1)", k -> k.bones(-1, 1));
        bad("bones(0, 10)", k -> k.bones(0, 10));
        bad("bones(0, -1)", k -> k.bones(0, -1));
        bad("walk(2, 1)", k -> k.walk(2, 1));
        bad("walk(-1, 1)", k -> k.walk(-1, 1));
        bad("walk(0, 3)", k -> k.walk(0, 3));
        bad("walk(0, -1)", k -> k.walk(0, -1));
        bad("put(5, 0)", k -> k.put(5, 0));
        bad("put(-1, 0)", k -> k.put(-1, 0));
        bad("put(0, 6)", k -> k.put(0, 6));
        bad("put(0, -1)", k -> k.put(0, -1));
        bad("dog(5, 0)", k -> k.dog(5, 0));
        bad("dog(-1, 0)", k -> k.dog(-1, 0));
        bad("dog(0, 4)", k -> k.dog(0, 4));
        bad("dog(0, -1)", k -> k.dog(0, -1));
        bad("person(2, 0)", k -> k.person(2, 0));
        bad("person(-1, 0)", k -> k.person(-1, 0));
        bad("person(0, 7)", k -> k.person(0, 7));
        bad("person(0, -1)", k -> k.person(0, -1));
    }

    private static void badForetold() {
        bad("ahead(5, 1)", k -> k.ahead(5, 1));
        bad("ahead(0, 61)", k -> k.ahead(0, 61));
        bad("ahead(0, -1)", k -> k.ahead(0, -1));
        bad("goes(2, 1)", k -> k.goes(2, 1));
        bad("goes(0, 61)", k -> k.goes(0, 61));
        bad("goes(0, -1)", k -> k.goes(0, -1));
        bad("crowned(0)", k -> k.crowned(0));
        bad("crowned(10)", k -> k.crowned(10));
        bad("heir(2)", k -> k.heir(2));
        bad("heir(-1)", k -> k.heir(-1));
        bad("least(2)", k -> k.least(2));
        bad("least(-1)", k -> k.least(-1));
        bad("walks(2)", k -> k.walks(2));
        bad("walks(-1)", k -> k.walks(-1));
        bad("cats(6, 0)", k -> k.cats(6, 0));
        bad("cats(-1, 0)", k -> k.cats(-1, 0));
        bad("cats(0, 2)", k -> k.cats(0, 2));
        bad("shows(0, 0, 1)", k -> k.shows(0, 0, 1));
        bad("shows(0, 2, 1)", k -> k.shows(0, 2, 1));
        bad("shows(-1, 1, 1)", k -> k.shows(-1, 1, 1));
        bad("shows(0, 1, 3)", k -> k.shows(0, 1, 3));
        bad("shows(0, 1, -1)", k -> k.shows(0, 1, -1));
        bad("packs(2)", k -> k.packs(2));
        bad("packs(-1)", k -> k.packs(-1));
        bad("asleep(2, 1, 0)", k -> k.asleep(2, 1, 0));
        bad("asleep(0, 11, 0)", k -> k.asleep(0, 11, 0));
        bad("asleep(0, -1, 0)", k -> k.asleep(0, -1, 0));
        bad("asleep(0, 1, 2)", k -> k.asleep(0, 1, 2));
        bad("drawn(10, 1, 0)", k -> k.drawn(10, 1, 0));
        bad("drawn(-1, 1, 0)", k -> k.drawn(-1, 1, 0));
        bad("drawn(1, 0, 0)", k -> k.drawn(1, 0, 0));
        bad("drawn(1, 1000000, 0)", k -> k.drawn(1, 1000000, 0));
        bad("drawn(1, 1, 2)", k -> k.drawn(1, 1, 2));
        bad("image(2)", k -> k.image(2));
        bad("image(-1)", k -> k.image(-1));
        bad("restore(2)", k -> k.restore(2));
        bad("restore(-1)", k -> k.restore(-1));
    }

    private static void badByRows() {
        bad("fits(5, 0, 0, 1, 0)", k -> k.fits(5, 0, 0, 1, 0));
        bad("fits(-1, 0, 0, 1, 0)", k -> k.fits(-1, 0, 0, 1, 0));
        bad("fits(0, 8, 0, 1, 0)", k -> k.fits(0, 8, 0, 1, 0));
        bad("fits(0, 0, 0, 0, 0)", k -> k.fits(0, 0, 0, 0, 0));
        bad("fits(0, 2, 0, 13, 0)", k -> k.fits(0, 2, 0, 13, 0));
        bad("fits(0, 2, 0, 1, 2)", k -> k.fits(0, 2, 0, 1, 2));
        bad("suits(2, 0, 0, 0, 1, 0)", k -> k.suits(2, 0, 0, 0, 1, 0));
        bad("suits(0, 5, 0, 0, 1, 0)", k -> k.suits(0, 5, 0, 0, 1, 0));
        bad("suits(0, 0, -1, 0, 1, 0)", k -> k.suits(0, 0, -1, 0, 1, 0));
        bad("suits(0, 0, 0, 0, 0, 0)", k -> k.suits(0, 0, 0, 0, 0, 0));
        bad("suits(0, 0, 2, 0, 13, 0)", k -> k.suits(0, 0, 2, 0, 13, 0));
        bad("suits(0, 0, 2, 0, 1, -1)", k -> k.suits(0, 0, 2, 0, 1, -1));
    }

    private static void badAsked() {
        bad("kind(5)", k -> k.kind(5));
        bad("kind(-1)", k -> k.kind(-1));
        bad("as(5, 0)", k -> k.as(5, 0));
        bad("as(-1, 0)", k -> k.as(-1, 0));
        bad("as(0, 6)", k -> k.as(0, 6));
        bad("as(0, -1)", k -> k.as(0, -1));
        bad("ask(5, 0)", k -> k.ask(5, 0));
        bad("ask(-1, 1)", k -> k.ask(-1, 1));
        bad("ask(0, 2)", k -> k.ask(0, 2));
        bad("ask(0, -1)", k -> k.ask(0, -1));
        bad("count(10)", k -> k.count(10));
        bad("count(-1)", k -> k.count(-1));
    }

    // ---- STATE, FULL, findings

    private static DogKings withoutActs() {
        DogKings k = rich();
        k.restore(1);
        return k;
    }

    private static DogKings withoutImages() {
        DogKings k = new DogKings();
        tell(k, "t6,3;m1,4,1;m3,2,2;h0;t4;p2;k0;s4;");
        k.minutes(5);
        k.as(0, 5);
        return k;
    }

    private static void states() {
        changesNothing("put() where it is", RefusalTests::rich, STATE, STORED, k -> k.put(4, k.dog(4, 0)));
        changesNothing("undo() of none", RefusalTests::withoutActs, STATE, STORED, DogKings::undo);
        changesNothing("restore(0) of none", RefusalTests::withoutImages, STATE, 3, k -> k.restore(0));
        changesNothing("restore(1) of none", RefusalTests::withoutImages, STATE, 3, k -> k.restore(1));
    }

    private static DogKings late() {
        DogKings k = new DogKings();
        tell(k, "t3,1;m0,0,0;m1,0,0;h0;");
        pass(k, 999);
        k.row(0, 0, 1);
        k.set(0, 1, 1);
        return k;
    }

    private static DogKings taped() {
        DogKings k = new DogKings();
        tell(k, "t3,1;m0,0,0;m1,0,0;h0;");
        for (int n = 0; n < 90; n++) {
            k.feed('t');
        }
        k.drop(3);
        return k;
    }

    private static void full() {
        changesNothing("minutes(1) at FRIDAY 999", RefusalTests::late, FULL, 2, k -> k.minutes(1));
        changesNothing("minutes(24) at FRIDAY 999", RefusalTests::late, FULL, 2, k -> k.minutes(24));
        changesNothing("minutes(25) at FRIDAY 999", RefusalTests::late, BAD, 2, k -> k.minutes(25));
        changesNothing("feed('t') of a full tape", RefusalTests::taped, FULL, 1, k -> k.feed('t'));
        changesNothing("feed(256) of a full tape", RefusalTests::taped, BAD, 1, k -> k.feed(256));
    }

    private static void found(String what, int finding, ToIntFunction<DogKings> call) {
        changesNothing(what, RefusalTests::rich, finding, -1000010 - finding, call);
    }

    private static void findings() {
        found("row(0, 2, -1)", SIZE, k -> k.row(0, 2, -1));
        found("row(2, 2, -1)", SIZE, k -> k.row(2, 2, -1));
        found("set(2, 0, 1)", NULL, k -> k.set(2, 0, 1));
        found("set(0, 3, 1)", PLACE, k -> k.set(0, 3, 1));
        found("set(0, -1, 1)", PLACE, k -> k.set(0, -1, 1));
        found("copy(2, 0, 0, 0, 1)", NULL, k -> k.copy(2, 0, 0, 0, 1));
        found("copy(0, 0, 2, 0, 1)", NULL, k -> k.copy(0, 0, 2, 0, 1));
        found("copy(1, 0, 0, 0, 1)", STORE, k -> k.copy(1, 0, 0, 0, 1));
        found("copy(0, 0, 0, 2, 2)", PLACE, k -> k.copy(0, 0, 0, 2, 2));
        found("copy(0, 2, 0, 0, 2)", PLACE, k -> k.copy(0, 2, 0, 0, 2));
        found("copy(0, 1, 0, 0, -1)", PLACE, k -> k.copy(0, 1, 0, 0, -1));
        found("drop(2)", NULL, k -> k.drop(2));
        found("fits(0, 2, 0, 1, 0)", NULL, k -> k.fits(0, 2, 0, 1, 0));
        found("fits(0, 0, 1, 3, 0)", PLACE, k -> k.fits(0, 0, 1, 3, 0));
        found("suits(0, 0, 2, 0, 1, 0)", NULL, k -> k.suits(0, 0, 2, 0, 1, 0));
        found("suits(0, 0, 0, 1, 3, 0)", PLACE, k -> k.suits(0, 0, 0, 1, 3, 0));
        found("as(0, 2)", KIND, k -> k.as(0, 2));
    }

    private static DogKings townless() {
        DogKings k = new DogKings();
        tell(k, "t10");
        rowOf(k, 0, 1, 2, 3);
        k.row(1, 1, 2);
        k.feed('t');
        k.feed('5');
        k.copy(0, 0, 1, 0, 1);
        return k;
    }

    private static void townlessDue(String what, int answer, ToIntFunction<DogKings> call) {
        changesNothing(what + ", no TOWN", RefusalTests::townless, answer, STORED, call);
    }

    private static void noTown() {
        townlessDue("minutes(1)", STATE, k -> k.minutes(1));
        townlessDue("minutes(25)", STATE, k -> k.minutes(25));
        townlessDue("crowned(1)", STATE, k -> k.crowned(1));
        townlessDue("crowned(10)", STATE, k -> k.crowned(10));
        townlessDue("drawn(1, 1, 0)", STATE, k -> k.drawn(1, 1, 0));
        townlessDue("drawn(1, 0, 0)", STATE, k -> k.drawn(1, 0, 0));
        townlessDue("hangs()", STATE, DogKings::hangs);
        townlessDue("undo()", STATE, DogKings::undo);
        townlessDue("image(0)", STATE, k -> k.image(0));
        townlessDue("image(2)", BAD, k -> k.image(2));
        townlessDue("restore(0)", STATE, k -> k.restore(0));
        townlessDue("restore(2)", BAD, k -> k.restore(2));
        townlessDue("bones(0, 0)", BAD, k -> k.bones(0, 0));
        townlessDue("walk(0, 0)", BAD, k -> k.walk(0, 0));
        townlessDue("put(0, 0)", BAD, k -> k.put(0, 0));
        townlessDue("dog(0, 0)", BAD, k -> k.dog(0, 0));
        townlessDue("person(0, 0)", BAD, k -> k.person(0, 0));
        townlessDue("ahead(0, 0)", BAD, k -> k.ahead(0, 0));
        townlessDue("goes(0, 0)", BAD, k -> k.goes(0, 0));
        townlessDue("heir(0)", BAD, k -> k.heir(0));
        townlessDue("least(0)", BAD, k -> k.least(0));
        townlessDue("walks(0)", BAD, k -> k.walks(0));
        townlessDue("cats(0, 0)", BAD, k -> k.cats(0, 0));
        townlessDue("shows(0, 1, 0)", BAD, k -> k.shows(0, 1, 0));
        townlessDue("packs(0)", BAD, k -> k.packs(0));
        townlessDue("fits(0, 0, 0, 1, 0)", BAD, k -> k.fits(0, 0, 0, 1, 0));
        townlessDue("suits(0, 0, 0, 0, 1, 0)", BAD, k -> k.suits(0, 0, 0, 0, 1, 0));
        townlessDue("asleep(0, 0, 0)", BAD, k -> k.asleep(0, 0, 0));
        townlessDue("kind(0)", BAD, k -> k.kind(0));
        townlessDue("as(0, 0)", BAD, k -> k.as(0, 0));
        townlessDue("ask(0, 0)", BAD, k -> k.ask(0, 0));
    }

    // ---- what tells

    /** What it answers is told by other tests. */
    private static void tells(String what, int status, ToIntFunction<DogKings> call) {
        changesNothing(what, RefusalTests::rich, call.applyAsInt(rich()), status, call);
    }

    private static DogKings imaged() {
        DogKings k = rich();
        k.image(1);
        return k;
    }

    private static void whatTells() {
        for (int n = 0; n <= 3; n++) {
            int what = n;
            tells("dog(2, " + n + ")", STORED, k -> k.dog(2, what));
            tells("person(0, " + 2 * n + ")", STORED, k -> k.person(0, 2 * what));
            tells("count(" + 3 * n + ")", STORED, k -> k.count(3 * what));
            tells("trace(" + 6 * n + ")", STORED, k -> k.trace(6 * what));
            tells("ahead(" + n + ", " + 20 * n + ")", STORED, k -> k.ahead(what, 20 * what));
            tells("kind(" + n + ")", STORED, k -> k.kind(what));
        }
        for (int n = 0; n <= 1; n++) {
            int who = n;
            tells("goes(" + n + ", 60)", STORED, k -> k.goes(who, 60));
            tells("crowned(" + (1 + 8 * n) + ")", STORED, k -> k.crowned(1 + 8 * who));
            tells("heir(" + n + ")", STORED, k -> k.heir(who));
            tells("least(" + n + ")", STORED, k -> k.least(who));
            tells("walks(" + n + ")", STORED, k -> k.walks(who));
            tells("cats(" + 5 * n + ", " + n + ")", STORED, k -> k.cats(5 * who, who));
            tells("shows(" + n + ", " + (1 - n) + ", 2)", STORED, k -> k.shows(who, 1 - who, 2));
            tells("packs(" + n + ")", STORED, k -> k.packs(who));
            tells("asleep(" + n + ", 3, " + n + ")", STORED, k -> k.asleep(who, 3, who));
            tells("drawn(9, 77, " + n + ")", STORED, k -> k.drawn(9, 77, who));
        }
        tells("hangs()", STORED, DogKings::hangs);
        tells("fault()", STORED, DogKings::fault);
        tells("status()", STORED, DogKings::status);
        tells("bones(1, 2) as they are", STORED, k -> k.bones(1, 2));
        tells("walk(1, 0) as it is", STORED, k -> k.walk(1, 0));
        changesNothing("image(1) of what it keeps", RefusalTests::imaged, 1, STORED, k -> k.image(1));
    }

    private static void whatTellsByRows() {
        tells("fits(0, 0, 0, 3, 0)", 0, k -> k.fits(0, 0, 0, 3, 0));
        tells("fits(1, 0, 1, 1, 1)", 0, k -> k.fits(1, 0, 1, 1, 1));
        tells("suits(0, 0, 0, 0, 3, 0)", 0, k -> k.suits(0, 0, 0, 0, 3, 0));
        tells("suits(1, 2, 0, 1, 1, 1)", 0, k -> k.suits(1, 2, 0, 1, 1, 1));
        tells("as(1, 2)", 0, k -> k.as(1, 2));
        tells("copy(0, 3, 0, 0, 0) of none", 0, k -> k.copy(0, 3, 0, 0, 0));
    }
}
