/** Terms (1) of rows, tapes, tokens and faults: each sentence that names a bound, on both sides of it. */
final class RowBoundTests extends TownTest {
    /** DOG d is in PLACE d behind each MINUTE, so that a ROW's ITEMS 0 to 5 can be told apart by it. */
    private static final String READER = "t9,1;m0,0,0;h0;h1;h2;h3;h4;h5;";
    private static final int ANY_KIND = 62;

    private static final Check CHECK = new Check("RowBoundTests");
    private static String sentence = "";

    private RowBoundTests() {
    }

    public static void main(String[] args) {
        rowsAreMissingAtFirst();
        eachRowByItself();
        lanes();
        howManyItems();
        itemsAreZeroAtFirst();
        lowestBits();
        copiesAtTheEnds();
        copiesAsTheyWereAhead();
        theTape();
        theLongestTown();
        places();
        minutesOfAFriday();
        homes();
        smellsAndWalks();
        howManyPeople();
        howManyDogs();
        letters();
        bytesThatAreNoTokens();
        figures();
        theEnd();
        theFirstToken();
        ofOneTokenTheLeast();
        theLatestFault();
        aTownThatIsRead();
        whatATownLeaves();
        aFaultyTextLeavesAll();
        CHECK.end();
    }

    private static void due(String what, long got, long want) {
        CHECK.due(sentence + " | " + what, got, want);
    }

    private static DogKings in(String text) {
        return in(CHECK, text);
    }

    /** ITEM i of a ROW, by the DOGS of READER; -1 if it is none of 0 to 5. */
    private static int item(DogKings k, int row, int i) {
        for (int d = 0; d < 6; d++) {
            if (k.fits(d, row, i, 1, 0) == ANY_KIND) {
                return d;
            }
        }
        return -1;
    }

    private static void itemsDue(String what, DogKings k, int row, int... items) {
        for (int i = 0; i < items.length; i++) {
            due(what + ": ITEM " + i + " of ROW " + row, item(k, row, i), items[i]);
        }
    }

    // ---- rows

    private static void rowsAreMissingAtFirst() {
        sentence = "ROWS 0 .. 7 are missing (at first)";
        DogKings k = in(READER);
        due("count(0)", k.count(0), 0);
        for (int row = 0; row <= 7; row++) {
            due("set(" + row + ", 0, 0)", k.set(row, 0, 0), NULL);
            due("drop(" + row + ")", k.drop(row), NULL);
            due("copy(" + row + ", ..)", k.copy(row, 0, row, 0, 0), NULL);
            due("fits(0, " + row + ", ..)", k.fits(0, row, 0, 1, 0), NULL);
            due("suits(0, 0, " + row + ", ..)", k.suits(0, 0, row, 0, 1, 0), NULL);
        }
        due("count(0) yet", k.count(0), 0);
        for (int row : new int[] {-1, 8, LOW, HIGH}) {
            due("row(" + row + ", ..)", k.row(row, 0, 1), BAD);
            due("set(" + row + ", ..)", k.set(row, 0, 0), BAD);
            due("drop(" + row + ")", k.drop(row), BAD);
            due("copy(" + row + ", ..)", k.copy(row, 0, 0, 0, 0), BAD);
            due("copy(0, 0, " + row + ", ..)", k.copy(0, 0, row, 0, 0), BAD);
            due("fits(0, " + row + ", ..)", k.fits(0, row, 0, 1, 0), BAD);
            due("suits(0, 0, " + row + ", ..)", k.suits(0, 0, row, 0, 1, 0), BAD);
        }
    }

    private static void eachRowByItself() {
        sentence = "ROWS 0 .. 7 are missing, or have a LANE and ITEMS";
        DogKings k = in(READER);
        for (int row = 0; row <= 7; row++) {
            due("row(" + row + ", ..)", k.row(row, row % 3, row + 1), row + 1);
            due("count(0)", k.count(0), row + 1);
            k.set(row, row, row % 6);
        }
        for (int row = 0; row <= 7; row++) {
            due("the last ITEM of ROW " + row, item(k, row, row), row % 6);
            due("no ITEM behind it", k.set(row, row + 1, 0), PLACE);
        }
        due("drop(7)", k.drop(7), 8);
        due("drop(0)", k.drop(0), 1);
        due("count(0)", k.count(0), 6);
        due("the others stay", item(k, 6, 6), 0);
        due("the others stay", item(k, 1, 1), 1);
        due("a ROW that was dropped is missing", k.set(7, 0, 0), NULL);
        due("it can be made anew", k.row(7, 0, 2), 2);
        due("anew, its ITEMS are 0", item(k, 7, 0), 0);
    }

    private static void lanes() {
        sentence = "a LANE (0 bytes, 1 shorts, 2 ints)";
        DogKings k = new DogKings();
        for (int lane = 0; lane <= 2; lane++) {
            due("row(0, " + lane + ", 1)", k.row(0, lane, 1), 1);
        }
        for (int lane : new int[] {-1, 3, LOW, HIGH}) {
            due("row(0, " + lane + ", 1)", k.row(0, lane, 1), BAD);
            due("row(0, " + lane + ", -1): BAD ahead of SIZE", k.row(0, lane, -1), BAD);
        }
        due("the LANE is yet the latest, ints", k.set(0, 0, 70000), 70000);
    }

    private static void howManyItems() {
        sentence = "0 to 40 ITEMS";
        DogKings k = new DogKings();
        for (int n : new int[] {0, 1, 39, 40}) {
            due("row(3, 1, " + n + ")", k.row(3, 1, n), n);
            due("no ITEM behind the last", k.set(3, n, 7), PLACE);
            due("no ITEM ahead of the first", k.set(3, -1, 7), PLACE);
            if (n > 0) {
                due("the first ITEM", k.set(3, 0, 7), 7);
                due("the last ITEM", k.set(3, n - 1, 8), 8);
            }
            due("drop(3)", k.drop(3), n);
        }
        for (int n : new int[] {41, 42, HIGH}) {
            due("row(3, 1, " + n + ")", k.row(3, 1, n), BAD);
        }
        due("none was made", k.count(0), 0);
        for (int n : new int[] {-1, -2, LOW}) {
            due("row(3, 1, " + n + ")", k.row(3, 1, n), SIZE);
        }
        due("none was made", k.count(0), 0);
        k.row(3, 1, 40);
        due("n above 40 leaves the ROW that is there", k.row(3, 0, 41), BAD);
        due("fewer than none leaves it, too", k.row(3, 0, -1), SIZE);
        due("a short yet", k.set(3, 39, 300), 300);
        due("an ITEM far above", k.set(3, HIGH, 1), PLACE);
        due("an ITEM far below", k.set(3, LOW, 1), PLACE);
    }

    private static void itemsAreZeroAtFirst() {
        sentence = "ITEMS, 0 at first";
        DogKings k = in(READER);
        k.row(0, 2, 40);
        for (int i = 0; i < 40; i++) {
            due("ITEM " + i, item(k, 0, i), 0);
        }
        for (int i = 0; i < 40; i++) {
            k.set(0, i, 1);
        }
        k.row(0, 2, 3);
        itemsDue("of a ROW in place of another", k, 0, 0, 0, 0);
        k.row(0, 2, 40);
        for (int i = 0; i < 40; i++) {
            due("ITEM " + i + " of a ROW in place of a shorter one", item(k, 0, i), 0);
        }
        k.set(0, 5, 4);
        k.drop(0);
        k.row(0, 2, 6);
        due("of a ROW behind one that was dropped", item(k, 0, 5), 0);
    }

    private static void lowestBits() {
        sentence = "ITEM i becomes v, its lowest bits, as many as the LANE has";
        int[][] due = {
            // v, as a byte, as a short
            {127, 127, 127}, {128, -128, 128}, {-128, -128, -128}, {-129, 127, -129}, {255, -1, 255}, {256, 0, 256},
            {32767, -1, 32767}, {32768, 0, -32768}, {-32768, 0, -32768}, {-32769, -1, 32767}, {65535, -1, -1},
            {65536, 0, 0}, {65541, 5, 5}, {HIGH, -1, -1}, {LOW, 0, 0}, {0, 0, 0}, {-1, -1, -1}
        };
        DogKings k = in(READER);
        for (int lane = 0; lane <= 2; lane++) {
            k.row(lane, lane, 2);
        }
        for (int[] v : due) {
            due("set(0, 1, " + v[0] + ")", k.set(0, 1, v[0]), v[1]);
            due("set(1, 1, " + v[0] + ")", k.set(1, 1, v[0]), v[2]);
            due("set(2, 1, " + v[0] + ")", k.set(2, 1, v[0]), v[0]);
        }
        for (int lane = 0; lane <= 2; lane++) {
            k.set(lane, 1, 65536 + 4);
            due("65540 in LANE " + lane + ", as it is then", item(k, lane, 1), lane == 2 ? -1 : 4);
            k.set(lane, 1, 256 + 3);
            due("259 in LANE " + lane + ", as it is then", item(k, lane, 1), lane == 0 ? 3 : -1);
            due("no other ITEM", item(k, lane, 0), 0);
        }
    }

    private static void copiesAtTheEnds() {
        sentence = "PLACE (i, j, n below 0, or beyond an end)";
        DogKings k = new DogKings();
        k.row(0, 1, 5);
        k.row(1, 1, 3);
        k.row(2, 1, 0);
        int[][] fine = {{0, 0, 1, 0, 3}, {0, 2, 1, 0, 3}, {0, 4, 1, 2, 1}, {0, 5, 1, 3, 0}, {0, 0, 2, 0, 0},
            {2, 0, 0, 5, 0}, {2, 0, 2, 0, 0}, {0, 0, 0, 0, 5}, {0, 4, 0, 4, 1}, {1, 0, 0, 2, 3}};
        for (int[] c : fine) {
            due(copyOf(c), k.copy(c[0], c[1], c[2], c[3], c[4]), c[4]);
        }
        int[][] beyond = {{0, 3, 1, 0, 3}, {0, 0, 1, 1, 3}, {0, 0, 1, 0, 4}, {0, 5, 1, 0, 1}, {0, 0, 1, 3, 1},
            {0, 6, 1, 0, 0}, {0, 0, 1, 4, 0}, {0, -1, 1, 0, 1}, {0, 0, 1, -1, 1}, {0, 0, 1, 0, -1}, {0, -1, 1, 1, 0},
            {0, 1, 1, -1, 0}, {2, 0, 2, 0, 1}, {2, 1, 2, 0, 0}, {0, 0, 0, 0, 6}, {0, HIGH, 1, 0, 1},
            {0, 0, 1, HIGH, 1}, {0, 0, 1, 0, HIGH}, {0, 1, 1, 1, HIGH}, {0, HIGH, 1, HIGH, HIGH},
            {0, LOW, 1, 0, 1}, {0, 0, 1, LOW, 1}, {0, 0, 1, 0, LOW}, {0, 5, 1, 3, LOW}, {0, LOW, 1, LOW, LOW}};
        for (int[] c : beyond) {
            due(copyOf(c), k.copy(c[0], c[1], c[2], c[3], c[4]), PLACE);
        }
        sentence = "FINDINGS, of several the first in time (copy: NULL; STORE; PLACE)";
        k.row(3, 2, 5);
        due("two LANES ahead of PLACE", k.copy(0, -1, 3, 9, -1), STORE);
        due("two LANES, nothing to copy", k.copy(0, 0, 3, 0, 0), STORE);
        due("NULL ahead of STORE and PLACE", k.copy(0, -1, 4, 9, -1), NULL);
        due("NULL ahead of STORE and PLACE", k.copy(4, -1, 0, 9, -1), NULL);
        due("BAD ahead of NULL", k.copy(4, 0, 8, 0, 1), BAD);
        due("BAD ahead of NULL", k.copy(-1, 0, 4, 0, 1), BAD);
    }

    private static String copyOf(int[] c) {
        return "copy(" + c[0] + ", " + c[1] + ", " + c[2] + ", " + c[3] + ", " + c[4] + ")";
    }

    private static void copiesAsTheyWereAhead() {
        sentence = "n ITEMS of a from i on come to b from j on, as they were ahead";
        DogKings k = in(READER);
        rowOf(k, 0, 1, 2, 3, 4, 5);
        due("one place on", k.copy(0, 0, 0, 1, 4), 4);
        itemsDue("one place on", k, 0, 1, 1, 2, 3, 4);
        rowOf(k, 0, 1, 2, 3, 4, 5);
        due("one place back", k.copy(0, 1, 0, 0, 4), 4);
        itemsDue("one place back", k, 0, 2, 3, 4, 5, 5);
        due("on itself", k.copy(0, 0, 0, 0, 5), 5);
        itemsDue("on itself", k, 0, 2, 3, 4, 5, 5);
        rowOf(k, 1, 0, 0, 0);
        due("none", k.copy(0, 2, 1, 1, 0), 0);
        itemsDue("none", k, 1, 0, 0, 0);
        due("one", k.copy(0, 2, 1, 1, 1), 1);
        itemsDue("one", k, 1, 0, 4, 0);
        due("all of b", k.copy(0, 2, 1, 0, 3), 3);
        itemsDue("all of b", k, 1, 4, 5, 5);
        itemsDue("a stays", k, 0, 2, 3, 4, 5, 5);
    }

    // ---- the tape

    private static void theTape() {
        sentence = "THE TAPE has at most 90 bytes, that come one by one";
        DogKings k = new DogKings();
        due("empty at first", k.count(8), 0);
        for (int n = 1; n <= 90; n++) {
            due("byte " + n, k.feed(n == 1 ? 't' : n == 2 ? 0 : n == 3 ? 255 : '0'), n);
        }
        due("full", k.count(8), 90);
        due("byte 91", k.feed('t'), FULL);
        due("byte 91 again", k.feed(0), FULL);
        due("feed(256): BAD ahead of FULL", k.feed(256), BAD);
        due("feed(-1): BAD ahead of FULL", k.feed(-1), BAD);
        due("90 yet", k.count(8), 90);
        due("it is read", k.town(), -1000101);
        due("empty then", k.count(8), 0);
        due("the first byte anew", k.feed('t'), 1);
        for (int letter : new int[] {-1, 256, LOW, HIGH, -1000000}) {
            due("feed(" + letter + ")", k.feed(letter), BAD);
        }
        due("one byte yet", k.count(8), 1);
    }

    private static final String LONGEST =
            "t09,30;m08,09,02;m00,00,00;m01,01,01;m02,02,02;m03,03,01;h00;t01;p02;k03;s08;h07;";

    private static void theLongestTown() {
        sentence = "THE TAPE has at most 90 bytes: the longest town has 81";
        due("its bytes", LONGEST.length(), 81);
        due("it is read", tell(new DogKings(), LONGEST), 6);
        due("a byte more", tell(new DogKings(), LONGEST + "h"), -1000181);
        due("a byte less", tell(new DogKings(), LONGEST.substring(0, 80)), -1000180);
        due("9 bytes more, a full tape", tell(new DogKings(), LONGEST + ";;;;;;;;;"), -1000181);
        DogKings k = new DogKings();
        due("10 bytes more: the last is left out", tell(k, LONGEST + "         h"), -1000181);
        due("empty then", k.count(8), 0);
    }

    // ---- towns

    private static void faulty(String text, int place, int number) {
        DogKings k = new DogKings();
        due("town() of " + text, tell(k, text), -1000100 - place);
        due("fault() of " + text, k.fault(), number);
        due("no TOWN by " + text, k.count(1), 0);
    }

    private static void read(String text, int dogs) {
        DogKings k = new DogKings();
        due("town() of " + text, tell(k, text), dogs);
        due("no FAULT by " + text, k.fault(), 0);
    }

    private static void places() {
        sentence = "t PLACES (3 to 9)";
        for (int n = 0; n <= 99; n++) {
            if (n >= 3 && n <= 9) {
                DogKings k = in("t" + n + ",1;m0,0,0;");
                due("PLACES of t" + n, k.count(1), n);
                due("PLACES of t0" + n, in("t0" + n + ",1;m0,0,0;").count(1), n);
            } else {
                faulty("t" + n + ",1;m0,0,0;", 1, 2);
            }
        }
    }

    private static void minutesOfAFriday() {
        sentence = "LONG (1 to 30: so many MINUTES a FRIDAY has)";
        for (int n = 0; n <= 99; n++) {
            if (n >= 1 && n <= 30) {
                DogKings k = in("t3," + n + ";m0,0,0;");
                due("LONG of t3," + n, k.count(6), n);
                pass(k, n - 1);
                due("FRIDAY ahead of the last of " + n, k.count(4), 0);
                due("MINUTE ahead of the last of " + n, k.count(5), n - 1);
                k.minutes(1);
                due("FRIDAY behind the last of " + n, k.count(4), 1);
                due("MINUTE behind the last of " + n, k.count(5), 0);
            } else {
                faulty("t3," + n + ";m0,0,0;", 3, 2);
            }
        }
    }

    private static void homes() {
        sentence = "m HOME, SORT HOME (a PLACE)";
        for (int places = 3; places <= 9; places++) {
            String law = "t" + places + ",1;";
            for (int home = 0; home <= 10; home++) {
                String man = law + "m" + home + ",0,0;";
                String dog = law + "m0,0,0;s" + home + ";";
                if (home < places) {
                    due(man, in(man).person(0, 1), home);
                    due(dog, in(dog).dog(0, 1), home);
                } else {
                    faulty(man, 6, 2);
                    faulty(dog, 13, 2);
                }
            }
        }
    }

    private static void smellsAndWalks() {
        sentence = "SMELL (0 to 9)";
        for (int smell = 0; smell <= 9; smell++) {
            due("m0," + smell + ",0;", in("t3,1;m0," + smell + ",0;").person(0, 2), smell);
        }
        faulty("t3,1;m0,10,0;", 8, 2);
        faulty("t3,1;m0,99,0;", 8, 2);
        sentence = "WALK (0 stays, 1 goes up, 2 goes down)";
        int[] behindAMinute = {4, 5, 3};
        for (int walk = 0; walk <= 2; walk++) {
            DogKings k = in("t9,9;m4,0," + walk + ";");
            due("WALK of m4,0," + walk, k.person(0, 4), walk);
            k.minutes(1);
            due("PLACE of m4,0," + walk, k.person(0, 0), behindAMinute[walk]);
        }
        faulty("t3,1;m0,0,3;", 10, 2);
        faulty("t3,1;m0,0,10;", 10, 2);
    }

    private static void howManyPeople() {
        sentence = "PEOPLE 0 .. 4, 5 at most";
        StringBuilder text = new StringBuilder("t3,1;");
        faulty(text.toString(), 5, 1);
        faulty(text + "h0;", 5, 1);
        for (int n = 1; n <= 5; n++) {
            text.append("m").append(n % 3).append(",").append(n).append(",0;");
            DogKings k = in(text.toString());
            due("PEOPLE", k.count(3), n);
            due("the last", k.person(n - 1, 2), n);
            due("none behind", k.person(n, 2), BAD);
            due("none ahead", k.person(-1, 2), BAD);
        }
        faulty(text + "m0,0,0;", 40, 3);
        faulty(text + "m", 40, 3);
        read(text + "h0;", 1);
    }

    private static void howManyDogs() {
        sentence = "DOGS 0 .. 5, 6 at most";
        StringBuilder text = new StringBuilder("t3,1;m0,0,0;");
        due("none", tell(new DogKings(), text.toString()), 0);
        due("no DOG 0", in(text.toString()).dog(0, 0), BAD);
        for (int n = 1; n <= 6; n++) {
            text.append("htpksh".charAt(n - 1)).append(n % 3).append(";");
            DogKings k = new DogKings();
            due("town()", tell(k, text.toString()), n);
            due("DOGS", k.count(2), n);
            due("the KIND of the last", k.kind(n - 1), n == 6 ? 1 : n);
            due("HOME of the last", k.dog(n - 1, 1), n % 3);
            due("none behind", k.dog(n, 1), BAD);
            due("none ahead", k.dog(-1, 1), BAD);
        }
        for (char sort : "htpks".toCharArray()) {
            faulty(text + "" + sort + "0;", 30, 3);
            faulty(text + "" + sort, 30, 3);
        }
    }

    private static void letters() {
        sentence = "letters a to z (each by itself)";
        for (char c = 'a'; c <= 'z'; c++) {
            String text = "t3,1;m0,0,0;" + c + "0;";
            if ("htpks".indexOf(c) >= 0) {
                read(text, 1);
            } else if (c == 'm') {
                faulty(text, 14, 1);
            } else {
                faulty(text, 12, 1);
            }
            faulty("t3,1;" + c + ";", c == 'm' ? 6 : 5, 1);
            faulty(c + ",", c == 't' ? 1 : 0, 1);
            faulty("t3,1;m0,0,0;h" + c, 13, 1);
            faulty("t3" + c, 2, 1);
        }
    }

    private static void bytesThatAreNoTokens() {
        sentence = "SIGNS , and ; nothing else, no blanks";
        String text = "t3,1;m0,0,0;h0;";
        for (int b : new int[] {0, 1, 9, 10, 13, ' ', '+', '-', '.', '/', ':', '<', 'A', 'T', 'Z', '`', '{', 127, 128, 255}) {
            for (int place = 0; place <= text.length(); place++) {
                faulty(text.substring(0, place) + (char) b + text.substring(place), place, 1);
            }
        }
        for (int place = 1; place < text.length(); place++) {
            char sign = text.charAt(place);
            if (sign == ',' || sign == ';') {
                char other = sign == ',' ? ';' : ',';
                faulty(text.substring(0, place) + other + text.substring(place + 1), place, 1);
            }
        }
    }

    private static void figures() {
        sentence = "NUMBERS (figures, 2 at most); a run of three figures, at its first";
        int[] numbers = {1, 3, 6, 8, 10, 13};
        String text = "t3,1;m0,0,0;h0;";
        for (int place : numbers) {
            String ahead = text.substring(0, place);
            String behind = text.substring(place + 1);
            String figure = text.substring(place, place + 1);
            read(ahead + figure + behind, 1);
            read(ahead + "0" + figure + behind, 1);
            faulty(ahead + "00" + figure + behind, place, 1);
            faulty(ahead + "000" + figure + behind, place, 1);
            faulty(ahead + "99999999999999999999" + behind, place, 1);
            faulty(ahead + behind, place, 1);
            faulty(ahead + "999", place, 1);
        }
        sentence = "1 it cannot stand there (a NUMBER)";
        faulty("3,1;", 0, 1);
        faulty("t3,1;5", 5, 1);
        faulty("t3,1;m0,0,0;7;", 12, 1);
        faulty("t3,1;m0,0,0;777;", 12, 1);
        faulty("t3,1;m0,0,0;h0;00", 15, 1);
    }

    private static void theEnd() {
        sentence = "the end: how many bytes there are";
        String text = "t5,3;m1,4,1;m3,2,2;h0;t4;p2;k0;s4;";
        for (int n = 0; n <= text.length(); n++) {
            String part = text.substring(0, n);
            if (n >= 12 && part.endsWith(";")) {
                read(part, n < 22 ? 0 : (n - 19) / 3);
            } else {
                faulty(part, n, 1);
            }
        }
        for (int n = 2; n < text.length(); n++) {
            DogKings k = in("t5,30;m01,04,01;m03,02,02;h00;t04;p02;k00;s04;");
            due("a shorter text behind a longer one", tell(k, text.substring(0, n)) <= -1000100 ? n : 0,
                    n >= 12 && text.charAt(n - 1) == ';' ? 0 : n);
        }
        DogKings k = in("t5,30;m0,0,0;");
        due("no byte of the text before", tell(k, "t5,3"), -1000104);
        due("the end is no NUMBER", k.fault(), 1);
        k = in("t5,30;m0,0,0;");
        due("no byte of the text before", tell(k, "t5,"), -1000103);
        due("the end is no NUMBER", k.fault(), 1);
        for (int n = 0; n < 7; n++) {
            faulty(LONGEST.substring(0, n), n == 2 ? 1 : n, n == 2 ? 2 : 1);
        }
    }

    private static void theFirstToken() {
        sentence = "the first TOKEN that has one";
        faulty("t2,0;m9,99,9;q", 1, 2);
        faulty("t3,0;m9,99,9;q", 3, 2);
        faulty("t3,1;m3,99,9;q", 6, 2);
        faulty("t3,1;m2,10,9;q", 8, 2);
        faulty("t3,1;m2,9,3;q", 10, 2);
        faulty("t3,1;m2,9,2;q9", 12, 1);
        faulty("t3,1;m2,9,2;h3,", 13, 2);
        faulty("t3,1;m2,9,2;h2,q", 14, 1);
        faulty("x2,0;", 0, 1);
    }

    private static void ofOneTokenTheLeast() {
        sentence = "of one TOKEN the least";
        faulty("t999,1;", 1, 1);
        faulty("t3,310;", 3, 1);
        faulty("99,1;", 0, 1);
        String full = "t3,1;m0,0,0;m0,0,0;m0,0,0;m0,0,0;m0,0,0;h0;";
        faulty(full + "m0,0,0;", 43, 1);
        faulty("t3,1;m0,0,0;h0;h0;h0;h0;h0;h0;m", 30, 1);
    }

    private static void theLatestFault() {
        sentence = "The number of the latest FAULT; 0 before one";
        DogKings k = new DogKings();
        due("before one", k.fault(), 0);
        tell(k, "t3,1;m0,0,0;");
        due("no FAULT yet", k.fault(), 0);
        tell(k, "t3,1;m0,0,0;h0;h0;h0;h0;h0;h0;h0;");
        due("3", k.fault(), 3);
        tell(k, "t3,1;m0,0,0;");
        due("3 behind a TOWN that is read", k.fault(), 3);
        tell(k, "t0");
        due("2", k.fault(), 2);
        due("the tape is empty: the end at 0", k.town(), -1000100);
        due("1", k.fault(), 1);
    }

    private static void aTownThatIsRead() {
        sentence = "A TOWN that is read stands in place of the one before";
        DogKings k = in(LONGEST);
        k.bones(4, 9);
        k.walk(1, 2);
        k.put(5, 0);
        pass(k, 35);
        due("a town of another FRIDAY", k.count(4) * 100 + k.count(5), 105);
        due("ACTS ahead", k.count(7), 24);
        due("the least town", tell(k, "t3,1;m2,9,1;"), 0);
        int[] counts = {0, 3, 0, 1, 0, 0, 1, 0, 0, 0};
        for (int what = 0; what < 10; what++) {
            due("count(" + what + ")", k.count(what), counts[what]);
        }
        due("no PERSON 1", k.person(1, 0), BAD);
        due("no DOG 0", k.dog(0, 0), BAD);
        due("no PLACE 3", k.cats(3, 0), BAD);
        due("no ACT can be undone", k.undo(), STATE);
        k.minutes(2);
        due("FRIDAY", k.count(4), 2);
        sentence = "FRIDAY 0, MINUTE 0, all at HOME, nobody has BONES, nobody was crowned; no ACT can be undone";
        due("the longest again", tell(k, LONGEST), 6);
        due("FRIDAY", k.count(4), 0);
        due("MINUTE", k.count(5), 0);
        due("REIGNS", k.count(9), 0);
        due("ACTS", k.count(7), 0);
        due("none", k.undo(), STATE);
        int[] homes = {8, 0, 1, 2, 3};
        int[] walks = {2, 0, 1, 2, 1};
        for (int p = 0; p < 5; p++) {
            due("where PERSON " + p + " is", k.person(p, 0), homes[p]);
            due("HOME of PERSON " + p, k.person(p, 1), homes[p]);
            due("BONES of PERSON " + p, k.person(p, 3), 0);
            due("WALK of PERSON " + p, k.person(p, 4), walks[p]);
            due("REIGNS of PERSON " + p, k.person(p, 5), 0);
        }
        int[] kennels = {0, 1, 2, 3, 8, 7};
        for (int d = 0; d < 6; d++) {
            due("where DOG " + d + " is", k.dog(d, 0), kennels[d]);
            due("HOME of DOG " + d, k.dog(d, 1), kennels[d]);
        }
    }

    private static void whatATownLeaves() {
        sentence = "A TOWN that is read (ROWS, images, THE TRACE, FAULT, status() are no part of it)";
        DogKings k = in(READER);
        k.bones(0, 6);
        k.image(1);
        k.row(2, 1, 7);
        tell(k, "t3,");
        k.ask(0, 0);
        k.as(0, 5);
        tell(k, "t3,1;m0,0,0;");
        due("status()", k.status(), 3);
        due("trace(0)", k.trace(0), 11);
        due("fault()", k.fault(), 1);
        due("ROWS", k.drop(2), 7);
        due("no other image", k.restore(0), STATE);
        due("the image", k.restore(1), 1);
        due("BONES", k.person(0, 3), 6);
    }

    private static void aFaultyTextLeavesAll() {
        sentence = "-1000100 less the place of a FAULT: all stays";
        String[] faulty = {"", "q", "t3", "t3,1;", "t3,1;m0,0,0;h", "t3,1;m0,0,0;h0;h0;h0;h0;h0;h0;h0;", LONGEST + "h0;"};
        for (String text : faulty) {
            DogKings k = in(LONGEST);
            k.bones(2, 3);
            pass(k, 32);
            int[] ahead = state(k);
            due("town() of " + text + " is refused", tell(k, text) <= -1000100 ? 1 : 0, 1);
            int[] behind = state(k);
            for (int i = 0; i < ahead.length; i++) {
                due("number " + i + " behind " + text, behind[i], ahead[i]);
            }
            due("ACTS can be undone yet", k.undo(), 23);
        }
    }

    /** All of five PEOPLE and of six DOGS, and the counts but ROWS. */
    private static int[] state(DogKings k) {
        int[] s = new int[5 * 7 + 6 * 5 + 9];
        int i = 0;
        for (int p = 0; p < 5; p++) {
            for (int what = 0; what < 7; what++) {
                s[i++] = k.person(p, what);
            }
        }
        for (int d = 0; d < 6; d++) {
            for (int what = 0; what < 4; what++) {
                s[i++] = k.dog(d, what);
            }
            s[i++] = k.kind(d);
        }
        for (int what = 1; what < 10; what++) {
            s[i++] = k.count(what);
        }
        return s;
    }
}
