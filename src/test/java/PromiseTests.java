/** Each promise of the document by answers that were worked out by hand from its words. */
final class PromiseTests extends TownTest {
    /**
     * All five kinds. By MINUTE: PEOPLE 1 3, 2 2, 3 1, 4 0 (the bell), 1 3; DOGS 0 4 2 0 4, 1 3 2 1 3,
     * 2 3 3 2 2, 3 4 4 3 1 (the bell), 0 4 2 0 4. Each FRIDAY is like the first: KING 0.
     */
    private static final String LANE = "t5,3;m1,4,1;m3,2,2;h0;t4;p2;k0;s4;";
    private static final int[][] LANE_DOGS = {{0, 4, 2, 0, 4}, {1, 3, 2, 1, 3}, {2, 3, 3, 2, 2}, {0, 4, 2, 0, 4}};
    private static final int[][] LANE_PEOPLE = {{1, 3}, {2, 2}, {3, 1}, {1, 3}};

    private static final Check CHECK = new Check("PromiseTests");
    private static String promise = "";

    private PromiseTests() {
    }

    public static void main(String[] args) {
        aNewObject();
        row();
        set();
        copy();
        drop();
        feed();
        town();
        faultsByToken();
        fault();
        minutes();
        minutesAtTheEnds();
        bones();
        walk();
        put();
        undo();
        undoOfEachAct();
        dog();
        person();
        ahead();
        goes();
        crowned();
        heir();
        least();
        walks();
        cats();
        shows();
        packs();
        hangs();
        fits();
        suits();
        asleep();
        drawn();
        image();
        restore();
        kind();
        as();
        ask();
        trace();
        count();
        status();
        CHECK.end();
    }

    private static void due(String what, long got, long want) {
        CHECK.due("promise " + promise + ": " + what, got, want);
    }

    private static DogKings in(String text) {
        return in(CHECK, text);
    }

    private static void places(DogKings k, String dogs) {
        for (int d = 0; d < dogs.length(); d++) {
            due("dog(" + d + ", 0)", k.dog(d, 0), dogs.charAt(d) - '0');
        }
    }

    // ---- rows

    private static void aNewObject() {
        promise = "1 (a new object)";
        DogKings k = new DogKings();
        for (int what = 0; what < 10; what++) {
            due("count(" + what + ")", k.count(what), 0);
        }
        due("minutes(1)", k.minutes(1), STATE);
        due("minutes(0), no TOWN ahead of BAD", k.minutes(0), STATE);
        due("crowned(0), no TOWN ahead of BAD", k.crowned(0), STATE);
        due("drawn(10, 0, 2), no TOWN ahead of BAD", k.drawn(10, 0, 2), STATE);
        due("hangs()", k.hangs(), STATE);
        due("undo()", k.undo(), STATE);
        due("image(1)", k.image(1), STATE);
        due("restore(1)", k.restore(1), STATE);
        due("bones(0, 0)", k.bones(0, 0), BAD);
        due("put(0, 0)", k.put(0, 0), BAD);
        due("cats(0, 0)", k.cats(0, 0), BAD);
        due("fault()", k.fault(), 0);
        due("status()", k.status(), 0);
        due("trace(0)", k.trace(0), NONE);
        due("NONE", NONE, -1000000);
        due("BAD", BAD, -1000001);
        due("STATE", STATE, -1000002);
        due("FULL", FULL, -1000003);
    }

    private static void row() {
        promise = "2 (row)";
        DogKings k = new DogKings();
        due("none yet", k.drop(7), NULL);
        due("row(7, 2, 40)", k.row(7, 2, 40), 40);
        due("row(0, 0, 0)", k.row(0, 0, 0), 0);
        due("no ITEM of none", k.set(0, 0, 1), PLACE);
        for (int[] a : new int[][] {{8, 0, 1}, {-1, 0, 1}, {0, 3, 1}, {0, -1, 1}, {0, 0, 41}, {0, 0, HIGH}, {8, 0, -1}, {0, 3, -1}}) {
            due("row(" + a[0] + ", " + a[1] + ", " + a[2] + ")", k.row(a[0], a[1], a[2]), BAD);
        }
        due("row(7, 0, -1)", k.row(7, 0, -1), SIZE);
        due("row(7, 0, LOW)", k.row(7, 0, LOW), SIZE);
        due("the ROW is as it was", k.set(7, 39, 100000), 100000);
        k.row(1, 0, 3);
        k.set(1, 2, 9);
        due("in place of what is there", k.row(1, 1, 3), 3);
        due("of shorts now", k.set(1, 0, 300), 300);
        DogKings home = in("t3,1;m0,0,0;h0;");
        home.row(0, 0, 1);
        due("ITEMS are 0 at first: HOME behind the bell", home.fits(0, 0, 0, 1, 1), 7);
        home.set(0, 0, 1);
        due("not HOME", home.fits(0, 0, 0, 1, 1), 0);
        home.row(0, 0, 1);
        due("ITEMS are 0 again", home.fits(0, 0, 0, 1, 1), 7);
    }

    private static void set() {
        promise = "3 (set)";
        DogKings k = new DogKings();
        for (int lane = 0; lane < 3; lane++) {
            k.row(lane, lane, 2);
        }
        int[][] bytes = {{127, 127}, {128, -128}, {255, -1}, {256, 0}, {-129, 127}};
        for (int[] b : bytes) {
            due("set(0, 0, " + b[0] + ")", k.set(0, 0, b[0]), b[1]);
        }
        int[][] shorts = {{32767, 32767}, {32768, -32768}, {65535, -1}, {65536, 0}, {-32769, 32767}};
        for (int[] s : shorts) {
            due("set(1, 1, " + s[0] + ")", k.set(1, 1, s[0]), s[1]);
        }
        due("an int stays", k.set(2, 1, LOW), LOW);
        due("an int stays", k.set(2, 1, HIGH), HIGH);
        due("set(8, 0, 0)", k.set(8, 0, 0), BAD);
        due("set(-1, 9, 0)", k.set(-1, 9, 0), BAD);
        due("set(3, 0, 0)", k.set(3, 0, 0), NULL);
        due("set(3, 9, 0)", k.set(3, 9, 0), NULL);
        due("set(0, 2, 0)", k.set(0, 2, 0), PLACE);
        due("set(0, -1, 0)", k.set(0, -1, 0), PLACE);
        due("set(0, HIGH, 0)", k.set(0, HIGH, 0), PLACE);
    }

    private static void copy() {
        promise = "4 (copy)";
        DogKings k = in("t9,1;m0,0,0;h5;h1;");
        rowOf(k, 0, 1, 2, 3, 5, 1);
        due("over itself, as they were ahead", k.copy(0, 0, 0, 1, 4), 4);
        due("the last is what was last but one", k.fits(0, 0, 4, 1, 0), 62);
        due("the first stays", k.fits(1, 0, 0, 1, 0), 62);
        due("the second was the first", k.fits(1, 0, 1, 1, 0), 62);
        rowOf(k, 0, 1, 2, 3, 5, 1);
        due("the other way", k.copy(0, 3, 0, 2, 2), 2);
        due("to the third", k.fits(0, 0, 2, 1, 0), 62);
        due("to the fourth", k.fits(1, 0, 3, 1, 0), 62);
        k.row(1, 0, 3);
        due("to another ROW", k.copy(0, 2, 1, 1, 2), 2);
        due("it is there", k.fits(0, 1, 1, 1, 0), 62);
        due("no more than n", k.fits(0, 1, 0, 1, 0), 0);
        due("none", k.copy(0, 5, 1, 3, 0), 0);
        due("n beyond the end of a", k.copy(0, 3, 1, 0, 3), PLACE);
        due("n beyond the end of b", k.copy(0, 0, 1, 1, 3), PLACE);
        due("i below 0", k.copy(0, -1, 1, 0, 1), PLACE);
        due("j below 0", k.copy(0, 0, 1, -1, 1), PLACE);
        due("n below 0", k.copy(0, 1, 1, 1, -1), PLACE);
        due("i beyond an end", k.copy(0, 6, 1, 0, 0), PLACE);
        due("j beyond an end", k.copy(0, 0, 1, 4, 0), PLACE);
        due("far beyond", k.copy(0, HIGH, 1, HIGH, HIGH), PLACE);
        due("far below", k.copy(0, LOW, 1, LOW, LOW), PLACE);
        k.row(2, 1, 3);
        due("two LANES", k.copy(0, 0, 2, 0, 1), STORE);
        due("two LANES ahead of PLACE", k.copy(2, 9, 0, -1, -1), STORE);
        due("NULL ahead of all", k.copy(3, 0, 2, -1, -1), NULL);
        due("NULL ahead of all", k.copy(2, -1, 3, 0, -1), NULL);
        due("copy(8, ..)", k.copy(8, 0, 3, 0, 1), BAD);
        due("copy(.., -1, ..)", k.copy(3, 0, -1, 0, 1), BAD);
    }

    private static void drop() {
        promise = "5 (drop)";
        DogKings k = new DogKings();
        k.row(7, 1, 40);
        k.row(0, 1, 0);
        due("drop(7)", k.drop(7), 40);
        due("drop(7) again", k.drop(7), NULL);
        due("drop(0)", k.drop(0), 0);
        due("set of it", k.set(0, 0, 0), NULL);
        due("drop(8)", k.drop(8), BAD);
        due("drop(-1)", k.drop(-1), BAD);
    }

    // ---- towns, acts

    private static void feed() {
        promise = "6 (feed)";
        DogKings k = new DogKings();
        due("feed(0)", k.feed(0), 1);
        due("feed(255)", k.feed(255), 2);
        due("feed(256)", k.feed(256), BAD);
        due("feed(-1)", k.feed(-1), BAD);
        for (int n = 3; n <= 90; n++) {
            due("byte " + n, k.feed('t'), n);
        }
        due("one more", k.feed('t'), FULL);
        due("BAD ahead of FULL", k.feed(256), BAD);
        due("count(8)", k.count(8), 90);
        k.town();
        due("the tape is empty then", k.feed('t'), 1);
    }

    private static void town() {
        promise = "7 (town)";
        DogKings k = new DogKings();
        due(LANE, tell(k, LANE), 5);
        due("count(8)", k.count(8), 0);
        due("no dogs", tell(new DogKings(), "t3,1;m2,9,2;"), 0);
        due("as much as there can be",
                tell(new DogKings(), "t09,30;m08,09,02;m0,00,0;m1,1,1;m2,2,2;m3,3,1;h00;t1;p2;k3;s8;h08;"), 6);
        k.minutes(4);
        k.bones(0, 5);
        k.walk(0, 0);
        due("a FAULT", tell(k, LANE + "?"), -1000100 - LANE.length());
        due("the tape is empty, too", k.count(8), 0);
        due("all stays: FRIDAY", k.count(4), 1);
        due("all stays: ACTS", k.count(7), 6);
        due("all stays: BONES", k.person(0, 3), 5);
        due("a TOWN in place of it", tell(k, LANE), 5);
        due("FRIDAY", k.count(4), 0);
        due("MINUTE", k.count(5), 0);
        due("REIGNS", k.count(9), 0);
        due("BONES", k.person(0, 3), 0);
        due("WALK", k.person(0, 4), 1);
        due("ACTS", k.count(7), 0);
        due("undo()", k.undo(), STATE);
        places(k, "04204");
    }

    private static void faulty(String text, int place, int number) {
        DogKings k = new DogKings();
        due("town() of " + text, tell(k, text), -1000100 - place);
        due("fault() of " + text, k.fault(), number);
    }

    private static void faultsByToken() {
        promise = "7 (town), 8 (fault)";
        faulty("", 0, 1);
        faulty("T3,1;m0,0,0;", 0, 1);
        faulty(" t3,1;m0,0,0;", 0, 1);
        faulty("m0,0,0;", 0, 1);
        faulty("t", 1, 1);
        faulty("t;", 1, 1);
        faulty("t2,1;", 1, 2);
        faulty("t10,1;", 1, 2);
        faulty("t99", 1, 2);
        faulty("t003,1;m0,0,0;", 1, 1);
        faulty("t100", 1, 1);
        faulty("t1000000000000", 1, 1);
        faulty("t3 ,1;", 2, 1);
        faulty("t3", 2, 1);
        faulty("t3,", 3, 1);
        faulty("t3,0;", 3, 2);
        faulty("t3,31;", 3, 2);
        faulty("t3,030;", 3, 1);
        faulty("t3,30", 5, 1);
        faulty("t3,30,", 5, 1);
        faulty("t3,30;", 6, 1);
        faulty("t3,30;x", 6, 1);
        faulty("t3,30;h0;", 6, 1);
        faulty("t3,30;m", 7, 1);
        faulty("t3,30;mm", 7, 1);
        faulty("t3,30;m3,0,0;", 7, 2);
        faulty("t3,30;m2;", 8, 1);
        faulty("t3,30;m2,10,", 9, 2);
        faulty("t3,30;m2,9;", 10, 1);
        faulty("t3,30;m2,9,3;", 11, 2);
        faulty("t3,30;m2,9,2", 12, 1);
        faulty("t3,30;m2,9,2,", 12, 1);
        faulty("t3,30;m2,9,2;3", 13, 1);
        faulty("t3,30;m2,9,2;q0;", 13, 1);
        faulty("t3,30;m2,9,2;\u00ff", 13, 1);
        faulty("t3,30;m2,9,2;h", 14, 1);
        faulty("t3,30;m2,9,2;h3;", 14, 2);
        faulty("t3,30;m2,9,2;h1", 15, 1);
        faulty("t3,30;m2,9,2;h1;m0,0,0;", 16, 1);
        faulty("t3,30;m2,9,2;h1;1", 16, 1);
        String five = "t3,1;m0,0,0;m0,0,0;m0,0,0;m0,0,0;m0,0,0;";
        faulty(five + "m0,0,0;", five.length(), 3);
        faulty(five + "m", five.length(), 3);
        faulty(five + "h0;m0,0,0;", five.length() + 3, 1);
        String six = five + "h0;t0;p0;k0;s0;h0;";
        faulty(six + "h0;", six.length(), 3);
        faulty(six + "s", six.length(), 3);
        faulty(six + "m", six.length(), 1);
        faulty("t3,1;m9,0,0;m0,0,0;m0,0,0;m0,0,0;m0,0,0;m0,0,0;", 6, 2);
    }

    private static void fault() {
        promise = "8 (fault)";
        DogKings k = new DogKings();
        due("before one", k.fault(), 0);
        tell(k, LANE);
        due("before one", k.fault(), 0);
        tell(k, "t1");
        due("the number", k.fault(), 2);
        tell(k, LANE);
        due("it is yet the latest", k.fault(), 2);
        tell(k, "");
        due("the latest", k.fault(), 1);
    }

    private static void minutes() {
        promise = "9 (minutes)";
        DogKings k = in(LANE);
        due("minutes(1)", k.minutes(1), 0);
        places(k, "13213");
        due("goes up", k.person(0, 0), 2);
        due("goes down", k.person(1, 0), 2);
        due("MINUTE", k.count(5), 1);
        due("minutes(1)", k.minutes(1), 0);
        places(k, "23322");
        due("minutes(1)", k.minutes(1), 1);
        places(k, "04204");
        due("all are at HOME", k.person(0, 0), 1);
        due("all are at HOME", k.person(1, 0), 3);
        due("MINUTE", k.count(5), 0);
        due("the KING", k.person(0, 5), 1);
        due("not the KING", k.person(1, 5), 0);
        due("minutes(24)", k.minutes(24), 9);
        due("REIGNS", k.person(0, 5), 9);
        due("an ACT each", k.count(7), 24);
        due("minutes(0)", k.minutes(0), BAD);
        due("minutes(25)", k.minutes(25), BAD);
        due("minutes(-1)", k.minutes(-1), BAD);
        due("nothing changes", k.count(4), 9);
        DogKings w = in("t3,9;m2,0,1;m0,0,2;m1,0,0;");
        int[][] ways = {{1, 1}, {0, 2}, {1, 1}, {2, 0}, {1, 1}};
        for (int[] at : ways) {
            w.minutes(1);
            due("one who came to the upper end", w.person(0, 0), at[0]);
            due("one who came to the lower end", w.person(1, 0), at[1]);
            due("one who stays", w.person(2, 0), 1);
        }
        due("turned at both ends, then at the upper one", w.person(0, 4), 2);
        due("turned at both ends, then at the lower one", w.person(1, 4), 1);
        DogKings home = in("t3,1;m2,0,1;");
        due("the bell of one MINUTE", home.minutes(1), 1);
        due("HOME", home.person(0, 0), 2);
        due("WALKS stay", home.person(0, 4), 2);
    }

    private static void minutesAtTheEnds() {
        promise = "9 (minutes)";
        DogKings least = in("t3,1;m2,0,0;m0,0,0;m2,0,0;h0;h2;");
        least.minutes(1);
        due("of several the least is KING", least.person(0, 5), 1);
        due("not one of as many DOGS behind", least.count(9), 1);
        DogKings nobody = in("t5,1;m0,0,0;h4;");
        due("a bell with nobody", nobody.minutes(1), 1);
        due("nobody reigns", nobody.count(9), 0);
        DogKings k = in("t3,1;m0,0,0;m0,9,0;h0;");
        for (int n = 0; n < 41; n++) {
            k.minutes(24);
        }
        due("FRIDAY", k.minutes(14), 998);
        due("REIGNS", k.person(0, 5), 998);
        due("FRIDAY goes above 999 within a call", k.minutes(24), 1022);
        due("REIGNS are 999 at most", k.person(0, 5), 999);
        due("FULL", k.minutes(1), FULL);
        due("BAD ahead of FULL", k.minutes(25), BAD);
        due("an ACT is undone", k.undo(), 23);
        due("FULL yet", k.minutes(1), FULL);
        for (int n = 0; n < 22; n++) {
            k.undo();
        }
        due("FRIDAY 999", k.count(4), 999);
        due("FULL at 999", k.minutes(1), FULL);
        k.undo();
        due("not at 998", k.minutes(1), 999);
    }

    private static void bones() {
        promise = "10 (bones)";
        DogKings k = in(LANE);
        due("had none", k.bones(1, 9), 0);
        due("had 9", k.bones(1, 3), 9);
        due("has", k.person(1, 3), 3);
        due("the other has none", k.person(0, 3), 0);
        due("two ACTS", k.count(7), 2);
        due("no other BONES", k.bones(1, 3), 3);
        due("no ACT: they are no other BONES", k.count(7), 2);
        due("bones(1, 10)", k.bones(1, 10), BAD);
        due("bones(1, -1)", k.bones(1, -1), BAD);
        due("bones(2, 0)", k.bones(2, 0), BAD);
        due("bones(-1, 0)", k.bones(-1, 0), BAD);
        due("has yet", k.person(1, 3), 3);
        k.minutes(3);
        due("BONES stay behind the bell", k.person(1, 3), 3);
    }

    private static void walk() {
        promise = "11 (walk)";
        DogKings k = in(LANE);
        due("went down", k.walk(1, 0), 2);
        due("stayed", k.walk(1, 1), 0);
        due("goes up", k.person(1, 4), 1);
        k.minutes(1);
        due("went up", k.person(1, 0), 4);
        due("ACTS", k.count(7), 3);
        due("no other WALK", k.walk(1, 1), 1);
        due("no ACT: it is no other WALK", k.count(7), 3);
        due("walk(1, 3)", k.walk(1, 3), BAD);
        due("walk(1, -1)", k.walk(1, -1), BAD);
        due("walk(2, 0)", k.walk(2, 0), BAD);
        due("walk(-1, 0)", k.walk(-1, 0), BAD);
    }

    private static void put() {
        promise = "12 (put)";
        DogKings k = in(LANE);
        due("was at 0", k.put(0, 4), 0);
        due("is at 4", k.dog(0, 0), 4);
        due("HOME stays", k.dog(0, 1), 0);
        due("it is there", k.put(0, 4), STATE);
        due("an ACT", k.count(7), 1);
        due("put(0, 5)", k.put(0, 5), BAD);
        due("put(0, -1)", k.put(0, -1), BAD);
        due("put(5, 4)", k.put(5, 4), BAD);
        due("put(-1, 4)", k.put(-1, 4), BAD);
        due("was at 4", k.put(0, 1), 4);
    }

    private static void undo() {
        promise = "13 (undo)";
        DogKings k = in(LANE);
        due("none", k.undo(), STATE);
        for (int n = 0; n < 30; n++) {
            k.bones(0, n % 2 + 1);
        }
        due("24 are kept", k.count(7), 24);
        for (int n = 23; n >= 0; n--) {
            due("undo()", k.undo(), n);
            due("BONES", k.person(0, 3), n % 2 == 0 ? 2 : 1);
        }
        due("the oldest is forgotten", k.undo(), STATE);
        for (int n = 0; n < 30; n++) {
            k.put(0, n % 2 + 1);
            k.put(0, 3 + n % 2);
            due("of each two one is undone", k.undo(), Math.min(n + 1, 23));
        }
        due("the 24th from the end", k.dog(0, 0), 2);
        k.undo();
        due("the one before", k.dog(0, 0), 1);
    }

    private static void undoOfEachAct() {
        promise = "13 (undo)";
        DogKings k = in("t5,2;m0,0,2;m4,3,1;h1;s0;");
        k.bones(1, 4);
        k.walk(1, 2);
        k.put(0, 3);
        k.minutes(2);
        due("FRIDAY", k.count(4), 1);
        due("undo()", k.undo(), 4);
        due("FRIDAY", k.count(4), 0);
        due("MINUTE", k.count(5), 1);
        due("nobody reigns again", k.count(9), 0);
        due("where one was", k.person(0, 0), 1);
        due("how one walked", k.person(0, 4), 1);
        due("undo()", k.undo(), 3);
        due("MINUTE", k.count(5), 0);
        due("where one was", k.person(0, 0), 0);
        due("how one walked ahead of the end of the street", k.person(0, 4), 2);
        due("where a DOG was", k.dog(0, 0), 3);
        due("undo()", k.undo(), 2);
        due("where a DOG was", k.dog(0, 0), 1);
        due("undo()", k.undo(), 1);
        due("WALK", k.person(1, 4), 1);
        due("undo()", k.undo(), 0);
        due("BONES", k.person(1, 3), 0);
    }

    private static void dog() {
        promise = "14 (dog)";
        DogKings k = in(LANE);
        int[][] due = {{0, 0, 0, 1}, {4, 4, 1, 3}, {2, 2, 0, 1}, {0, 0, NONE, 4}, {4, 4, NONE, 1}};
        for (int d = 0; d < 5; d++) {
            for (int what = 0; what < 4; what++) {
                due("dog(" + d + ", " + what + ")", k.dog(d, what), due[d][what]);
            }
        }
        due("dog(0, 4)", k.dog(0, 4), BAD);
        due("dog(0, -1)", k.dog(0, -1), BAD);
        due("dog(5, 0)", k.dog(5, 0), BAD);
        due("dog(-1, 0)", k.dog(-1, 0), BAD);
        DogKings pull = in("t9,9;m0,4,0;m8,5,0;h4;t4;p4;p3;h5;");
        due("SMELL is in the PULL of a hound", pull.dog(0, 2), 1);
        due("SMELL is left out by a terrier, of several the least", pull.dog(1, 2), 0);
        due("a pup goes for a PULL of 1", pull.dog(2, 3), 8);
        due("a pup goes for a PULL of 1", pull.dog(3, 2), 0);
        pull.bones(0, 1);
        due("a BONE is 3", pull.dog(0, 2), 0);
        due("a BONE is 3", pull.dog(4, 2), 0);
        DogKings pup = in("t9,9;m0,4,0;p4;p3;p5;");
        due("a PULL of 0: nobody", pup.dog(0, 2), NONE);
        due("a PULL of 0: no PLACE", pup.dog(0, 3), NONE);
        due("a PULL of 1", pup.dog(1, 2), 0);
        due("a PULL below 0", pup.dog(2, 2), NONE);
        DogKings alone = in("t5,9;m0,0,0;k3;");
        due("one of the pack alone", alone.dog(0, 3), NONE);
        DogKings shy = in("t5,9;m0,0,0;s3;");
        due("a shy one alone", shy.dog(0, 3), 0);
        DogKings packs = in("t5,9;m0,0,0;k1;h3;h2;k2;h3;s0;");
        due("most other DOGS, of several the least", packs.dog(0, 3), 2);
        due("not itself", packs.dog(3, 3), 3);
        due("fewest other DOGS, not itself", packs.dog(5, 3), 0);
    }

    private static void person() {
        promise = "15 (person)";
        DogKings k = in(LANE);
        k.bones(0, 2);
        k.minutes(4);
        int[] due = {2, 1, 4, 2, 1, 1};
        for (int what = 0; what < 6; what++) {
            due("person(0, " + what + ")", k.person(0, what), due[what]);
        }
        DogKings dogs = in("t3,9;m0,0,0;m0,1,0;m1,0,0;m2,0,0;h0;h1;s0;k2;p0;t2;");
        due("DOGS", dogs.person(0, 6), 1 + 4 + 16);
        due("the same DOGS", dogs.person(1, 6), 1 + 4 + 16);
        due("DOGS", dogs.person(2, 6), 2);
        due("DOGS", dogs.person(3, 6), 8 + 32);
        due("person(0, 7)", k.person(0, 7), BAD);
        due("person(0, -1)", k.person(0, -1), BAD);
        due("person(2, 0)", k.person(2, 0), BAD);
        due("person(-1, 0)", k.person(-1, 0), BAD);
    }

    // ---- foretold

    private static void ahead() {
        promise = "16 (ahead)";
        DogKings k = in(LANE);
        for (int m = 0; m <= 60; m++) {
            for (int d = 0; d < 5; d++) {
                due("ahead(" + d + ", " + m + ")", k.ahead(d, m), LANE_DOGS[m == 0 ? 0 : (m - 1) % 3 + 1][d]);
            }
        }
        due("nothing changes", k.count(5) + k.count(7) + k.count(9), 0);
        due("ahead(0, 61)", k.ahead(0, 61), BAD);
        due("ahead(0, -1)", k.ahead(0, -1), BAD);
        due("ahead(5, 0)", k.ahead(5, 0), BAD);
        due("ahead(-1, 0)", k.ahead(-1, 0), BAD);
        k.minutes(1);
        due("from now on", k.ahead(0, 1), 2);
    }

    private static void goes() {
        promise = "17 (goes)";
        DogKings k = in(LANE);
        for (int m = 0; m <= 60; m++) {
            for (int p = 0; p < 2; p++) {
                due("goes(" + p + ", " + m + ")", k.goes(p, m), LANE_PEOPLE[m == 0 ? 0 : (m - 1) % 3 + 1][p]);
            }
        }
        due("goes(0, 61)", k.goes(0, 61), BAD);
        due("goes(0, -1)", k.goes(0, -1), BAD);
        due("goes(2, 0)", k.goes(2, 0), BAD);
        due("goes(-1, 0)", k.goes(-1, 0), BAD);
        due("nothing changes", k.person(0, 0), 1);
    }

    private static void crowned() {
        promise = "18 (crowned)";
        DogKings k = in(LANE);
        for (int n = 1; n <= 9; n++) {
            due("crowned(" + n + ")", k.crowned(n), 0);
        }
        due("crowned(0)", k.crowned(0), BAD);
        due("crowned(10)", k.crowned(10), BAD);
        due("nothing changes", k.count(4) + k.count(9), 0);
        due("nobody", in("t5,1;m0,0,0;h4;").crowned(3), NONE);
        DogKings turns = in(TURNS);
        for (int n = 1; n <= 9; n++) {
            due("crowned(" + n + ")", turns.crowned(n), (n + 1) % 2);
        }
        turns.minutes(1);
        due("from now on", turns.crowned(1), 0);
        turns.minutes(1);
        due("from now on", turns.crowned(1), 1);
    }

    /** PERSON 0 goes 2 1, then 0 1 by turns; on the first such FRIDAY he is KING, on the other PERSON 1. */
    private static final String TURNS = "t3,2;m1,0,1;m0,2,0;h2;";

    private static void heir() {
        promise = "19 (heir)";
        DogKings k = in(LANE);
        due("KING of the next BELL", k.heir(0), 3);
        due("never", k.heir(1), NONE);
        k.minutes(1);
        due("from now on", k.heir(0), 2);
        due("heir(2)", k.heir(2), BAD);
        due("heir(-1)", k.heir(-1), BAD);
        DogKings turns = in(TURNS);
        due("KING of the first bell", turns.heir(0), 2);
        due("KING of the second", turns.heir(1), 4);
        DogKings later = in("t9,20;m0,0,0;m8,0,0;h4;");
        later.put(0, 8);
        due("DOGS that were put are at HOME by the next BELL", later.heir(1), 20);
        due("so the other reigns at the one behind that", later.heir(0), 40);
        DogKings far = in("t9,30;m0,0,0;m8,0,0;h4;");
        far.put(0, 8);
        due("behind 60", far.heir(0), 60);
        DogKings none = in("t9,1;m0,0,0;m8,0,0;h0;");
        due("not within 60", none.heir(1), NONE);
    }

    private static void least() {
        promise = "20 (least)";
        DogKings k = in("t9,2;m0,0,0;m8,0,0;h7;h7;h1;");
        due("2 by a PULL as great", k.least(0), 2);
        due("0", k.least(1), 0);
        k.bones(0, 9);
        due("in place of those one has", k.least(0), 2);
        due("by a PULL that is greater", k.least(1), 8);
        due("nothing changes", k.person(0, 3) - k.person(1, 3), 9);
        DogKings nine = in("t9,4;m0,0,0;m8,0,0;h4;");
        nine.bones(1, 9);
        due("9", nine.least(0), 9);
        due("none is enough", in("t9,1;m0,0,0;m8,0,0;h8;").least(0), NONE);
        due("least(2)", k.least(2), BAD);
        due("least(-1)", k.least(-1), BAD);
    }

    private static void walks() {
        promise = "21 (walks)";
        DogKings k = in("t9,1;m4,0,0;m0,0,0;h5;");
        due("0 and 1", k.walks(0), 3);
        due("none", k.walks(1), 0);
        due("nothing changes", k.person(0, 4), 0);
        due("2 alone", in("t9,1;m4,0,0;h2;").walks(0), 4);
        due("walks(2)", k.walks(2), BAD);
        due("walks(-1)", k.walks(-1), BAD);
    }

    private static void catsDue(String text, int place, int n, int which) {
        DogKings k = in(text);
        due("cats(" + place + ", 0) of " + text, k.cats(place, 0), n);
        due("cats(" + place + ", 1) of " + text, k.cats(place, 1), which);
    }

    private static void cats() {
        promise = "22 (cats)";
        catsDue("t5,4;m0,0,0;h4;", 0, 1, 2);
        catsDue("t5,4;m0,0,0;h4;", 4, 0, 0);
        catsDue("t9,3;m0,0,0;h3;", 0, 1, 2);
        catsDue("t3,1;m1,0,0;h1;", 1, NONE, NONE);
        catsDue("t5,1;m2,0,0;h1;h4;", 2, NONE, NONE);
        catsDue("t5,2;m2,0,0;h0;h4;", 2, 2, 10);
        // one that is there goes out: cats at 3 keep none in, and the dog at 0 goes out over 1
        catsDue("t5,2;m1,0,0;h3;", 1, 1, 4);
        catsDue("t9,8;m8,0,0;h0;h1;h2;h3;h4;h6;", 8, 1, 128);
        DogKings k = in(LANE);
        k.minutes(2);
        due("from now on", k.cats(4, 0), NONE);
        due("nothing changes", k.dog(1, 0), 3);
        due("cats(5, 0)", k.cats(5, 0), BAD);
        due("cats(-1, 0)", k.cats(-1, 0), BAD);
        due("cats(0, 2)", k.cats(0, 2), BAD);
        due("cats(0, -1)", k.cats(0, -1), BAD);
    }

    private static void shows() {
        promise = "23 (shows)";
        DogKings k = in("t9,4;m0,0,0;m8,0,0;h4;");
        due("none shows", k.shows(0, 1, 0), 1);
        due("of the other one", k.shows(1, 0, 0), -1);
        due("each shows one", k.shows(0, 1, 1), 1);
        due("each shows one", k.shows(1, 0, 1), -1);
        DogKings smell = in("t9,4;m0,0,0;m8,1,0;h4;");
        due("the other one smells", smell.shows(0, 1, 0), -1);
        due("the other one shows, too", smell.shows(0, 1, 1), -1);
        due("the one shows", smell.shows(1, 0, 1), 1);
        k.bones(0, 8);
        k.bones(1, 9);
        due("9 at most", k.shows(0, 1, 1), 1);
        due("9 at most", k.shows(0, 1, 2), 1);
        due("he who has 9 first", k.shows(1, 0, 1), -1);
        due("nothing changes", k.person(0, 3), 8);
        k.bones(0, 7);
        due("one is too few", k.shows(0, 1, 1), -1);
        due("two are enough", k.shows(0, 1, 2), 1);
        DogKings stays = in("t9,4;m0,0,0;m8,9,0;m4,9,0;h4;h4;h8;");
        due("DOGS in the PLACE less those in the other's", stays.shows(0, 1, 0), -1);
        due("in one PLACE", in("t3,1;m1,0,0;m1,0,0;h1;h1;").shows(1, 0, 1), 0);
        due("alike", k.shows(1, 1, 1), BAD);
        due("shows(0, 2, 1)", k.shows(0, 2, 1), BAD);
        due("shows(2, 0, 1)", k.shows(2, 0, 1), BAD);
        due("shows(-1, 0, 1)", k.shows(-1, 0, 1), BAD);
        due("shows(0, -1, 1)", k.shows(0, -1, 1), BAD);
        due("shows(0, 1, 3)", k.shows(0, 1, 3), BAD);
        due("shows(0, 1, -1)", k.shows(0, 1, -1), BAD);
    }

    private static void packs() {
        promise = "24 (packs)";
        DogKings k = in("t3,1;m0,0,0;m2,0,0;h0;h1;h2;");
        due("all but none and the third alone", k.packs(0), 6);
        due("the third alone", k.packs(1), 1);
        due("no DOGS", in("t3,1;m0,0,0;").packs(0), 0);
        DogKings pack = in("t5,1;m0,0,0;k0;h4;");
        due("others that are not there are not gone for", pack.packs(0), 1);
        k.put(0, 2);
        due("there now", k.packs(0), 3);
        due("packs(2)", k.packs(2), BAD);
        due("packs(-1)", k.packs(-1), BAD);
    }

    private static void hangs() {
        promise = "25 (hangs)";
        due("on none", in("t3,1;m0,0,0;m2,0,0;h0;h1;h2;").hangs(), 0);
        due("on two", in("t3,1;m0,0,0;m2,0,0;h0;h2;h2;").hangs(), 6);
        due("nobody without it", in("t3,1;m0,0,0;h0;").hangs(), 1);
        due("somebody in place of nobody", in("t5,1;m0,0,0;k0;h4;").hangs(), 2);
        due("no DOGS", in("t3,1;m0,0,0;").hangs(), 0);
    }

    private static final String GUESS = "t5,4;m4,9,0;m0,0,0;h1;";

    private static void fits() {
        promise = "26 (fits)";
        DogKings k = in(GUESS);
        rowOf(k, 0, 2, 3, 4, 1, 2, 0, 1, 4);
        due("a hound, a pup go up", k.fits(0, 0, 0, 1, 0), 10);
        due("a terrier, a shy one go down", k.fits(0, 0, 5, 1, 0), 36);
        due("one of the pack stays", k.fits(0, 0, 6, 1, 0), 16);
        due("none goes so", k.fits(0, 0, 7, 1, 0), 0);
        due("behind the bell it is at HOME", k.fits(0, 0, 0, 5, 0), 10);
        due("from 1", k.fits(0, 0, 0, 1, 1), 2);
        due("from 3 or 4", k.fits(0, 0, 7, 1, 1), 24);
        rowOf(k, 1, 2, 3, 4, 1, 2, 3, 4, 1, 2, 3, 4, 1, 2);
        due("12", k.fits(0, 1, 0, 12, 0), 10);
        due("from 0", k.fits(0, 1, 3, 1, 1), 1);
        due("fits(1, ..)", k.fits(1, 0, 0, 1, 0), BAD);
        due("fits(-1, ..)", k.fits(-1, 0, 0, 1, 0), BAD);
        due("ROW 8", k.fits(0, 8, 0, 1, 0), BAD);
        due("ROW -1", k.fits(0, -1, 0, 1, 0), BAD);
        due("n 13", k.fits(0, 1, 0, 13, 0), BAD);
        due("n 0", k.fits(0, 1, 0, 0, 0), BAD);
        due("what 2", k.fits(0, 1, 0, 1, 2), BAD);
        due("what -1", k.fits(0, 1, 0, 1, -1), BAD);
        due("BAD ahead of NULL", k.fits(0, 2, 0, 13, 0), BAD);
        due("NULL", k.fits(0, 2, 99, 1, 0), NULL);
        due("i below 0", k.fits(0, 0, -1, 1, 0), PLACE);
        due("to the end", k.fits(0, 0, 6, 2, 0), 0);
        due("beyond the end", k.fits(0, 0, 7, 2, 0), PLACE);
        due("far beyond", k.fits(0, 0, HIGH, 12, 0), PLACE);
        due("nothing changes", k.kind(0) * 10 + k.dog(0, 0), 11);
    }

    private static void suits() {
        promise = "27 (suits)";
        DogKings k = in(GUESS);
        rowOf(k, 0, 2, 3, 4, 0);
        due("SMELLS of 2 and above", k.suits(0, 0, 0, 0, 1, 0), 1020);
        due("SMELLS of 0, 1", k.suits(0, 0, 0, 3, 1, 0), 3);
        due("SMELLS of the other of 7 and below", k.suits(1, 0, 0, 0, 1, 0), 255);
        due("any GAIT", k.suits(0, 0, 0, 0, 1, 1), 7);
        due("he stays", k.suits(0, 0, 0, 0, 3, 1), 1);
        due("suits(2, ..)", k.suits(2, 0, 0, 0, 1, 0), BAD);
        due("suits(-1, ..)", k.suits(-1, 0, 0, 0, 1, 0), BAD);
        due("DOG 1", k.suits(0, 1, 0, 0, 1, 0), BAD);
        due("DOG -1", k.suits(0, -1, 0, 0, 1, 0), BAD);
        due("ROW 8", k.suits(0, 0, 8, 0, 1, 0), BAD);
        due("ROW -1", k.suits(0, 0, -1, 0, 1, 0), BAD);
        due("n 13", k.suits(0, 0, 0, 0, 13, 0), BAD);
        due("n 0", k.suits(0, 0, 0, 0, 0, 0), BAD);
        due("what 2", k.suits(0, 0, 0, 0, 1, 2), BAD);
        due("what -1", k.suits(0, 0, 0, 0, 1, -1), BAD);
        due("BAD ahead of NULL", k.suits(0, 0, 2, 0, 1, 2), BAD);
        due("NULL", k.suits(0, 0, 2, 99, 1, 0), NULL);
        due("i below 0", k.suits(0, 0, 0, -1, 1, 0), PLACE);
        due("to the end", k.suits(0, 0, 0, 2, 2, 0), 0);
        k.row(1, 0, 12);
        due("12", k.suits(0, 0, 1, 0, 12, 0), 0);
        due("beyond the end", k.suits(0, 0, 0, 3, 2, 0), PLACE);
        due("nothing changes", k.person(0, 2) * 10 + k.person(0, 4), 90);
    }

    private static void asleepDue(String text, int person, int c, int above, int below) {
        DogKings k = in(text);
        due("asleep(" + person + ", " + c + ", 0) of " + text, k.asleep(person, c, 0), above);
        due("asleep(" + person + ", " + c + ", 1) of " + text, k.asleep(person, c, 1), below);
    }

    private static void asleep() {
        promise = "28 (asleep)";
        asleepDue("t3,1;m0,0,0;h1;", 0, 3, 7, 10);
        asleepDue("t3,1;m0,0,0;h1;", 0, 5, 1, 2);
        asleepDue("t3,1;m0,0,0;h1;", 0, 0, 1, 1);
        asleepDue("t3,1;m0,0,0;h1;", 0, 10, 0, 1);
        asleepDue("t3,1;m0,0,0;h1;h1;", 0, 3, 91, 100);
        asleepDue("t3,1;m0,0,0;h1;h1;", 0, 5, 3, 4);
        asleepDue("t3,1;m0,0,0;h0;", 0, 7, 1, 1);
        asleepDue("t3,1;m0,0,0;", 0, 7, 0, 1);
        asleepDue("t3,1;m0,0,0;m2,0,0;h1;h2;", 1, 4, 2, 5);
        asleepDue("t3,1;m0,0,0;m2,0,0;h1;h2;", 0, 4, 3, 5);
        asleepDue("t3,2;m0,0,0;h1;h1;h1;h1;h1;h1;", 0, 1, 999999, 1000000);
        DogKings k = in("t3,1;m0,0,0;h1;");
        due("c 11", k.asleep(0, 11, 0), BAD);
        due("c -1", k.asleep(0, -1, 0), BAD);
        due("what 2", k.asleep(0, 1, 2), BAD);
        due("what -1", k.asleep(0, 1, -1), BAD);
        due("asleep(1, ..)", k.asleep(1, 1, 0), BAD);
        due("asleep(-1, ..)", k.asleep(-1, 1, 0), BAD);
    }

    private static void drawn() {
        promise = "29 (drawn)";
        // X from 1 on: 16807, 282475249, 1622650073, 984943658, 1144108930, 470211272, 101027544, 1457850878, 1458777923
        DogKings pup = in("t9,1;m0,0,0;p1;");
        int[] nobody = {0, 0, 0, 0, 0, 1, 1, 1, 1, 1};
        for (int n = 0; n <= 9; n++) {
            due("drawn(" + n + ", 1, 0): nobody by no BONES", pup.drawn(n, 1, 0), nobody[n]);
            due("drawn(" + n + ", 1, 1)", pup.drawn(n, 1, 1), n == 0 ? NONE : 0);
        }
        due("nothing changes", pup.person(0, 3) + pup.count(4), 0);
        DogKings far = in("t3,1;m0,0,0;h2;");
        due("nobody", far.drawn(4, 1, 0), 4);
        due("nobody", far.drawn(4, 1, 1), NONE);
        DogKings two = in("t3,1;m0,0,0;m2,0,0;h1;");
        due("1, 1, 1, 0 are crowned", two.drawn(4, 1, 1), 1);
        DogKings several = in("t3,2;m0,0,0;m2,0,0;h1;");
        several.minutes(1);
        due("the FRIDAY of now needs one MINUTE more", several.drawn(1, 1, 1), NONE);
        due("it is put by the first MINUTE", several.drawn(1, 1, 0), 1);
        due("a long while", in(LANE).drawn(9, 999999, 0) >= 0 ? 1 : 0, 1);
        due("n 10", two.drawn(10, 1, 0), BAD);
        due("n -1", two.drawn(-1, 1, 0), BAD);
        due("seed 0", two.drawn(1, 0, 0), BAD);
        due("seed 1000000", two.drawn(1, 1000000, 0), BAD);
        due("what 2", two.drawn(1, 1, 2), BAD);
        due("what -1", two.drawn(1, 1, -1), BAD);
    }

    private static void image() {
        promise = "30 (image)";
        DogKings k = new DogKings();
        due("no TOWN", k.image(0), STATE);
        due("BAD ahead of STATE", k.image(2), BAD);
        tell(k, LANE);
        due("image(0)", k.image(0), 1);
        due("image(1)", k.image(1), 1);
        due("image(2)", k.image(2), BAD);
        due("image(-1)", k.image(-1), BAD);
        k.bones(0, 7);
        due("in place of the one before", k.image(1), 1);
        due("no ACT", k.count(7), 1);
        k.restore(0);
        due("each by itself", k.person(0, 3), 0);
        k.restore(1);
        due("each by itself", k.person(0, 3), 7);
    }

    private static void restore() {
        promise = "31 (restore)";
        DogKings k = in(LANE);
        k.bones(1, 2);
        k.walk(0, 2);
        k.put(3, 4);
        k.minutes(4);
        k.image(1);
        due("none was kept", k.restore(0), STATE);
        due("restore(2)", k.restore(2), BAD);
        due("restore(-1)", k.restore(-1), BAD);
        due("ACTS yet", k.count(7), 7);
        int[] before = new int[9];
        for (int what = 0; what < 7; what++) {
            before[what] = k.person(1, what);
        }
        int reigns = k.count(9);
        tell(k, "t3,1;m0,0,0;");
        k.minutes(5);
        due("restore(1)", k.restore(1), 1);
        due("no ACT can be undone", k.undo(), STATE);
        for (int what = 0; what < 7; what++) {
            due("person(1, " + what + ")", k.person(1, what), before[what]);
        }
        due("DOGS", k.count(2), 5);
        due("PLACES", k.count(1), 5);
        due("LONG", k.count(6), 3);
        due("FRIDAY", k.count(4), 1);
        due("MINUTE", k.count(5), 1);
        due("REIGNS", k.count(9), reigns);
        due("KINDS", k.kind(4), 5);
        due("HOME", k.dog(3, 1), 0);
        k.bones(1, 9);
        k.restore(1);
        due("the IMAGE stays as it was", k.person(1, 3), 2);
    }

    // ---- asked

    private static void kind() {
        promise = "32 (kind)";
        DogKings k = in(LANE);
        for (int d = 0; d < 5; d++) {
            due("kind(" + d + ")", k.kind(d), d + 1);
        }
        due("kind(5)", k.kind(5), BAD);
        due("kind(-1)", k.kind(-1), BAD);
    }

    private static void as() {
        promise = "33 (as)";
        DogKings k = in(LANE);
        // by DOG the KINDS that it is: DOG, HOUND, TERRIER, PUP, PACK, SHY
        String[] is = {"110000", "111000", "110100", "100010", "100011"};
        for (int d = 0; d < 5; d++) {
            for (int kind = 0; kind < 6; kind++) {
                due("as(" + d + ", " + kind + ")", k.as(d, kind), is[d].charAt(kind) == '1' ? d : KIND);
            }
        }
        due("as(0, 6)", k.as(0, 6), BAD);
        due("as(0, -1)", k.as(0, -1), BAD);
        due("as(5, 0)", k.as(5, 0), BAD);
        due("as(-1, 0)", k.as(-1, 0), BAD);
    }

    private static void asked(DogKings k, int dog, int what, int answer, int... trace) {
        due("ask(" + dog + ", " + what + ")", k.ask(dog, what), answer);
        for (int i = 0; i < trace.length; i++) {
            due("trace(" + i + ") of ask(" + dog + ", " + what + ")", k.trace(i), trace[i]);
        }
        due("its end", k.trace(trace.length), NONE);
    }

    private static void ask() {
        promise = "34 (ask), 35 (trace)";
        DogKings k = in("t9,9;m0,0,0;h2;t3;p4;k5;s6;");
        k.put(0, 3);
        k.put(1, 8);
        k.put(2, 7);
        asked(k, 0, 0, 2 + 3, 11, 10, 21, 20);
        asked(k, 0, 1, 3, 21, 20);
        asked(k, 1, 0, -(3 + 2 * (1 + 8)), 12, 11, 10, 24, 21, 20);
        asked(k, 1, 1, 2 * (1 + 8), 24, 21, 20);
        asked(k, 2, 0, 4 + 2 + 7 - 1000, 11, 10, 22, 21, 20);
        asked(k, 2, 1, 2 + 7 - 1000, 22, 21, 20);
        asked(k, 3, 0, 5 - 100, 13, 10);
        asked(k, 3, 1, 3 - (5 - 100), 23, 20, 13, 10);
        asked(k, 4, 0, 2 * (6 - 100), 14, 13, 10);
        asked(k, 4, 1, 4 - 2 * (6 - 100), 23, 20, 14, 13, 10);
        due("ask(0, 2)", k.ask(0, 2), BAD);
        due("ask(0, -1)", k.ask(0, -1), BAD);
        due("ask(5, 0)", k.ask(5, 0), BAD);
        due("ask(-1, 0)", k.ask(-1, 0), BAD);
        due("what is refused changes nothing", k.trace(0), 23);
    }

    private static void trace() {
        promise = "35 (trace)";
        DogKings k = in(LANE);
        due("trace(0)", k.trace(0), NONE);
        k.ask(0, 1);
        due("trace(0)", k.trace(0), 21);
        due("trace(1)", k.trace(1), 20);
        for (int i : new int[] {2, 15, 16, -1, LOW, HIGH}) {
            due("trace(" + i + ")", k.trace(i), NONE);
        }
    }

    private static void count() {
        promise = "36 (count)";
        DogKings k = in(LANE);
        k.row(0, 0, 0);
        k.row(7, 0, 4);
        k.row(7, 1, 4);
        k.row(3, 0, 4);
        k.drop(3);
        k.feed('t');
        k.feed('x');
        k.feed('x');
        k.minutes(7);
        k.undo();
        k.bones(1, 9);
        k.minutes(4);
        int[] due = {2, 5, 5, 2, 3, 1, 3, 11, 3, 3};
        for (int what = 0; what < due.length; what++) {
            due("count(" + what + ")", k.count(what), due[what]);
        }
        due("REIGNS of all", k.person(0, 5) + k.person(1, 5), 3);
        due("count(10)", k.count(10), BAD);
        due("count(-1)", k.count(-1), BAD);
    }

    private static void status() {
        promise = "37 (status)";
        DogKings k = in(LANE);
        due("none yet", k.status(), 0);
        k.row(0, 0, -1);
        due("SIZE", k.status(), 4);
        k.minutes(0);
        k.put(0, 0);
        k.bones(0, 3);
        k.ask(0, 0);
        due("of the latest call with a ROW, or as()", k.status(), 4);
        k.row(8, 0, 1);
        k.fits(9, 0, 0, 1, 0);
        k.as(9, 0);
        due("that was not BAD", k.status(), 4);
        k.as(1, 3);
        due("KIND", k.status(), 3);
        k.as(1, 2);
        due("it had none", k.status(), 0);
        k.drop(0);
        due("NULL", k.status(), 1);
        k.row(0, 0, 4);
        due("row() had none", k.status(), 0);
        k.set(0, 4, 0);
        due("PLACE", k.status(), 2);
        k.set(0, 3, 0);
        due("set() had none", k.status(), 0);
        k.row(1, 1, 4);
        k.copy(0, 0, 1, 0, 1);
        due("STORE", k.status(), 5);
        k.copy(0, 0, 0, 1, 1);
        due("copy() had none", k.status(), 0);
        k.fits(0, 0, 4, 1, 0);
        due("PLACE", k.status(), 2);
        k.fits(0, 0, 3, 1, 0);
        due("fits() had none", k.status(), 0);
        k.suits(0, 0, 5, 0, 1, 0);
        due("NULL", k.status(), 1);
        k.suits(0, 0, 0, 0, 1, 0);
        due("suits() had none", k.status(), 0);
        k.drop(5);
        k.drop(0);
        due("drop() had none", k.status(), 0);
    }
}
