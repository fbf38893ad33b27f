/** Terms (3), (4) of what is foretold and asked: each sentence that names a bound, on both sides of it. */
final class SeerBoundTests extends TownTest {
    private static final Check CHECK = new Check("SeerBoundTests");
    private static String sentence = "";

    private SeerBoundTests() {
    }

    public static void main(String[] args) {
        minutesOn();
        minutesOnOverBells();
        nothingChanges();
        theNthBell();
        heirByMinutes();
        fewestBones();
        walksByWhichOneIs();
        catsThatHold();
        catsThatAreNone();
        catsOfSeveral();
        catsAndBells();
        bonesByTurns();
        nineBonesAtMost();
        theOneFirst();
        theOneLessTheOther();
        packsOfAll();
        hangsOnWhich();
        minutesOfARow();
        itemsOfARow();
        sorts();
        fromWhere();
        smells();
        gaits();
        asleepByTenths();
        lowestTerms();
        asleepTillTheBell();
        yearsOfNone();
        draws();
        drawsOfSeveral();
        drawsFromNowOn();
        kinds();
        asks();
        theTrace();
        CHECK.end();
    }

    private static void due(String what, long got, long want) {
        CHECK.due(sentence + " | " + what, got, want);
    }

    private static DogKings in(String text) {
        return in(CHECK, text);
    }

    // ---- d MINUTES on, the n-th BELL

    private static void minutesOn() {
        sentence = "FORETOLD d MINUTES on (0 to 60): where a DOG, where a PERSON is";
        DogKings k = in("t9,7;m0,0,1;h0;");
        for (int d = 0; d <= 60; d++) {
            due("goes(0, " + d + ")", k.goes(0, d), d % 7);
            due("ahead(0, " + d + ")", k.ahead(0, d), d % 7);
        }
        for (int d : new int[] {-1, 61, LOW, HIGH}) {
            due("goes(0, " + d + ")", k.goes(0, d), BAD);
            due("ahead(0, " + d + ")", k.ahead(0, d), BAD);
        }
        due("nothing changes", k.count(5) + k.count(4) + k.count(7), 0);
        k.minutes(6);
        due("0 on, at the last MINUTE", k.goes(0, 0), 6);
        due("the BELL", k.goes(0, 1), 0);
        due("60 on", k.goes(0, 60), 66 % 7);
        due("60 on", k.ahead(0, 60), 66 % 7);
    }

    private static void minutesOnOverBells() {
        sentence = "d MINUTES on: LONG 1 and LONG 30";
        DogKings shortest = in("t9,1;m4,0,1;h2;");
        shortest.put(0, 8);
        due("now", shortest.ahead(0, 0), 8);
        for (int d : new int[] {1, 2, 59, 60}) {
            due("at HOME behind each BELL", shortest.ahead(0, d) * 10 + shortest.goes(0, d), 24);
        }
        // up and down t5: 3 4 3 2 1 0 1 2 in eight MINUTES; so at 0 by the first BELL, at 4 by the second
        DogKings longest = in("t5,30;m2,0,1;h2;");
        int[][] due = {{0, 2}, {1, 3}, {2, 4}, {3, 3}, {28, 2}, {29, 1}, {30, 2}, {31, 1}, {32, 0}, {33, 1}, {59, 3}, {60, 2}};
        for (int[] d : due) {
            due("goes(0, " + d[0] + ")", longest.goes(0, d[0]), d[1]);
            due("ahead(0, " + d[0] + ")", longest.ahead(0, d[0]), d[1]);
        }
    }

    private static void onTheWay(String behind, DogKings k) {
        for (int d = 0; d <= 3; d++) {
            due("ahead(0, " + d + ") behind " + behind, k.ahead(0, d), 4 - d);
            due("ahead(1, " + d + ") behind " + behind, k.ahead(1, d), 5 + d);
        }
        due("crowned(1) behind " + behind, k.crowned(1), 0);
    }

    private static void nothingChanges() {
        sentence = "FORETOLD (nothing changes): not what is foretold next, either";
        DogKings k = in("t9,4;m0,0,0;m8,0,0;h4;h5;");
        onTheWay("nothing", k);
        due("cats in 1", k.cats(0, 1), 2);
        onTheWay("cats(0, 1)", k);
        due("no DOG is in 3 by then", k.cats(3, 0), 0);
        onTheWay("cats(3, 0)", k);
        due("all asleep", k.asleep(0, 10, 0), 0);
        onTheWay("asleep(0, 10, 0)", k);
        k.asleep(1, 5, 1);
        onTheWay("asleep(1, 5, 1)", k);
        due("any pack with DOG 0", k.packs(0), 2);
        onTheWay("packs(0)", k);
        due("on DOG 0", k.hangs(), 1);
        onTheWay("hangs()", k);
        due("both DOGS by one BONE", k.least(1), 1);
        onTheWay("least(1)", k);
        k.walks(1);
        onTheWay("walks(1)", k);
        k.shows(1, 0, 2);
        onTheWay("shows(1, 0, 2)", k);
        k.drawn(9, 5, 1);
        onTheWay("drawn(9, 5, 1)", k);
        rowOf(k, 0, 3, 2);
        due("a hound, a terrier, a shy one", k.fits(0, 0, 0, 2, 0), 2 + 4 + 32);
        onTheWay("fits(0, 0, 0, 2, 0)", k);
        due("from 4", k.fits(0, 0, 0, 2, 1), 16);
        onTheWay("fits(0, 0, 0, 2, 1)", k);
        k.suits(1, 0, 0, 0, 2, 0);
        onTheWay("suits(1, 0, 0, 0, 2, 0)", k);
        k.suits(1, 0, 0, 0, 2, 1);
        onTheWay("suits(1, 0, 0, 0, 2, 1)", k);
    }

    private static void theNthBell() {
        sentence = "CROWNED in n FRIDAYS (1 to 9): the KING of the n-th BELL from now on; NONE: nobody";
        // PERSON 0 is at 1 by the first BELL, at 1 by the second; the DOG goes from 2 to him or to PERSON 1 at 2
        DogKings k = in("t3,2;m1,0,1;m0,2,0;h2;");
        for (int n = 1; n <= 9; n++) {
            due("crowned(" + n + ")", k.crowned(n), n % 2 == 1 ? 0 : 1);
        }
        for (int n : new int[] {0, 10, -1, LOW, HIGH}) {
            due("crowned(" + n + ")", k.crowned(n), BAD);
        }
        k.minutes(1);
        due("the next BELL is behind one MINUTE", k.crowned(1), 0);
        due("the second", k.crowned(2), 1);
        k.minutes(1);
        due("the next BELL is another", k.crowned(1), 1);
        due("the ninth from now on", k.crowned(9), 1);
        DogKings nobody = in("t3,1;m0,0,0;h0;");
        nobody.put(0, 2);
        due("nobody, once", nobody.crowned(1), NONE);
        due("HOME by then", nobody.crowned(2), 0);
        due("nobody, ever", in("t3,1;m0,0,0;h2;").crowned(9), NONE);
        due("no DOGS", in("t3,1;m0,0,0;").crowned(9), NONE);
        DogKings none = new DogKings();
        for (int n : new int[] {0, 1, 9, 10}) {
            due("no TOWN (ahead of BAD), " + n, none.crowned(n), STATE);
        }
    }

    private static void heirByMinutes() {
        sentence = "HEIR: behind how many MINUTES (1 to 60) a PERSON is KING of a BELL first; NONE";
        DogKings one = in("t3,1;m0,0,0;m2,0,0;h0;");
        due("1", one.heir(0), 1);
        due("never", one.heir(1), NONE);
        // PERSON 1, the DOG with him, is at 0 by the first BELL, at 4 by the second, and so on by turns
        DogKings k = in("t5,30;m0,0,0;m2,9,1;h2;");
        due("30", k.heir(0), 30);
        due("60", k.heir(1), 60);
        pass(k, 29);
        due("31", k.heir(1), 31);
        k.put(0, 4);
        k.walk(1, 1);
        due("31, the second BELL", k.heir(0), 31);
        due("61, the third", k.heir(1), NONE);
        k.minutes(1);
        due("30", k.heir(0), 30);
        due("60", k.heir(1), 60);
        due("nothing changes", k.count(9), 0);
    }

    // ---- what makes a KING

    private static void fewestBones() {
        sentence = "LEAST: the fewest BONES (0 to 9, in place of those one has) by which one is KING of the next BELL; NONE";
        DogKings k = in("t9,4;m0,0,0;m8,0,0;h4;");
        for (int bones = 0; bones <= 9; bones++) {
            k.bones(1, bones);
            due("of several the least, against " + bones, k.least(0), bones);
        }
        k.bones(1, 0);
        for (int bones = 0; bones <= 9; bones++) {
            k.bones(0, bones);
            due("one more than " + bones, k.least(1), bones == 9 ? NONE : bones + 1);
        }
        due("in place of those one has", k.least(0), 0);
        due("nothing changes", k.person(0, 3), 9);
        DogKings far = in("t9,3;m0,0,0;m8,0,0;h4;");
        due("the next BELL comes too early", far.least(0), NONE);
        // the DOG that stays with PERSON 0 by few BONES comes to be with PERSON 1, the least, by more
        DogKings less = in("t3,1;m1,0,0;m1,0,0;h1;");
        due("PERSON 0 by any", less.least(0), 0);
        due("PERSON 1 by none", less.least(1), NONE);
    }

    private static void walksByWhichOneIs() {
        sentence = "WALKS: WALKS (0 to 2, bits) by which one is";
        String[] towns = {"h4;", "h2;", "h6;", "h3;", "h5;", "h1;", ""};
        int[] due = {7, 4, 2, 5, 3, 0, 0};
        for (int i = 0; i < towns.length; i++) {
            DogKings k = in("t9,1;m4,0,2;" + towns[i]);
            due("walks(0) of m4 and " + towns[i], k.walks(0), due[i]);
            due("nothing changes", k.person(0, 4) * 10 + k.person(0, 0), 24);
        }
        DogKings two = in("t9,1;m4,0,0;m4,9,0;h4;");
        due("0 alone", two.walks(0), 1);
        due("1 and 2", two.walks(1), 6);
        DogKings end = in("t9,1;m0,0,0;m8,0,0;h1;h7;");
        due("at the lower end each goes up", end.walks(0), 7);
        due("at the upper end, of several the least", end.walks(1), 0);
    }

    // ---- cats

    private static void catsDue(String text, int place, int n, int which) {
        DogKings k = in(text);
        due("cats(" + place + ", 0) of " + text, k.cats(place, 0), n);
        due("cats(" + place + ", 1) of " + text, k.cats(place, 1), which);
        due("nothing changes in " + text, k.count(5) + k.count(7), 0);
    }

    private static void catsThatHold() {
        sentence = "CATS: (no DOG goes into one; one that is there may go out)";
        catsDue("t3,2;m0,0,0;h2;", 0, 1, 2);
        catsDue("t9,2;m0,0,0;h2;", 0, 1, 2);
        // cats where the DOG is do not hold it: the one PLACE that does is the next
        catsDue("t9,3;m0,0,0;h3;", 0, 1, 2);
        catsDue("t9,3;m8,0,0;h5;", 8, 1, 64);
        // only that out of which it goes could hold it
        catsDue("t3,1;m0,0,0;h1;", 0, NONE, NONE);
        catsDue("t3,1;m0,0,0;h2;", 1, NONE, NONE);
    }

    private static void catsThatAreNone() {
        sentence = "CATS: how many; which (bits); NONE (PLACES, not that one)";
        catsDue("t9,1;m0,0,0;h8;", 0, 0, 0);
        catsDue("t9,8;m8,0,0;h0;", 4, 0, 0);
        catsDue("t9,8;m8,0,0;h0;", 8, 1, 2);
        catsDue("t3,1;m0,0,0;", 2, 0, 0);
        catsDue("t3,1;m1,0,0;h0;h2;", 1, NONE, NONE);
        catsDue("t3,30;m1,0,0;h1;", 1, NONE, NONE);
        catsDue("t3,1;m0,0,1;h0;", 0, 0, 0);
        catsDue("t3,1;m0,0,1;h0;", 1, NONE, NONE);
        DogKings k = in("t3,1;m0,0,0;h0;");
        for (int place : new int[] {-1, 3, LOW, HIGH}) {
            due("cats(" + place + ", 0)", k.cats(place, 0), BAD);
        }
        for (int what : new int[] {-1, 2, LOW, HIGH}) {
            due("cats(0, " + what + ")", k.cats(0, what), BAD);
        }
    }

    private static void catsOfSeveral() {
        sentence = "the fewest PLACES; which (bits), of several the least";
        catsDue("t9,8;m0,0,0;h8;", 0, 1, 2);
        catsDue("t9,4;m4,0,0;h0;h8;", 4, 2, 2 + 32);
        catsDue("t9,3;m4,0,0;h1;h7;h7;", 4, 2, 4 + 32);
        catsDue("t9,2;m4,0,0;h2;h6;", 4, 2, 8 + 32);
        catsDue("t9,4;m4,0,0;h3;h0;h8;", 4, NONE, NONE);
    }

    private static void catsAndBells() {
        sentence = "CATS: so that no DOG is in that PLACE at the next BELL";
        DogKings k = in("t9,4;m0,0,0;h4;");
        k.minutes(1);
        due("from 3, three MINUTES", k.cats(0, 1), 2);
        k.minutes(1);
        due("from 2, two MINUTES", k.cats(0, 1), 2);
        k.minutes(1);
        due("from 1, one MINUTE", k.cats(0, 1), NONE);
        due("where it is", k.cats(1, 1), 0);
        k.put(0, 2);
        due("from 2, one MINUTE", k.cats(0, 1), 0);
        due("it goes there", k.cats(1, 1), NONE);
        due("it is there, and goes out", k.cats(2, 1), 0);
        // a HOUND that is in the PLACE is kept in it by nothing but cats: none is the best
        catsDue("t5,2;m4,0,0;h2;", 2, 0, 0);
    }

    // ---- BONES BY TURNS

    private static void bonesByTurns() {
        sentence = "BONES BY TURNS of two PEOPLE, n each (0 to 2)";
        // PERSON 1 has 4 more SMELL: one BONE is too few against it, two are enough
        DogKings k = in("t9,4;m0,0,0;m8,4,0;h4;");
        due("none each", k.shows(0, 1, 0), -1);
        due("one each", k.shows(0, 1, 1), -1);
        k.bones(0, 1);
        due("one each, 3 less 4", k.shows(0, 1, 1), -1);
        k.bones(0, 2);
        due("none each, 6 less 4", k.shows(0, 1, 0), 1);
        due("one each, 9 less 7", k.shows(0, 1, 1), 1);
        due("two each", k.shows(0, 1, 2), 1);
        due("by the other one", k.shows(1, 0, 2), -1);
        for (int n : new int[] {-1, 3, LOW, HIGH}) {
            due("shows(0, 1, " + n + ")", k.shows(0, 1, n), BAD);
        }
        due("alike", k.shows(0, 0, 0), BAD);
        due("alike", k.shows(1, 1, 2), BAD);
        due("nothing changes", k.person(0, 3) * 10 + k.count(7), 22);
    }

    private static void nineBonesAtMost() {
        sentence = "one shows a BONE more (9 at most, else it has no effect), or none";
        DogKings k = in("t9,4;m0,2,0;m8,0,0;h4;");
        k.bones(0, 8);
        k.bones(1, 9);
        due("27 and 26", k.shows(1, 0, 0), 1);
        due("27 yet, as 9 are the most; 29", k.shows(1, 0, 1), -1);
        k.bones(0, 7);
        k.bones(1, 8);
        due("24 and 23", k.shows(1, 0, 0), 1);
        due("27 and 26", k.shows(1, 0, 1), 1);
        due("27 yet, and 29", k.shows(1, 0, 2), -1);
        k.bones(0, 9);
        k.bones(1, 9);
        due("29 and 27", k.shows(0, 1, 2), 1);
        due("27 and 29", k.shows(1, 0, 2), -1);
    }

    private static void theOneFirst() {
        sentence = "one after the other, the one first, n times each";
        // by who shows (nobody, PERSON 0, PERSON 1, both): 1, 0, -1, 1 DOGS more by PERSON 0
        DogKings k = in("t3,1;m2,0,0;m0,0,0;p0;s1;t1;");
        due("nobody", k.shows(0, 1, 0), 1);
        k.bones(0, 1);
        due("PERSON 0", k.shows(0, 1, 0), 0);
        k.bones(1, 1);
        due("both", k.shows(0, 1, 0), 1);
        k.bones(0, 0);
        due("PERSON 1", k.shows(0, 1, 0), -1);
        k.bones(1, 0);
        due("PERSON 0 first: he shows, the other not", k.shows(0, 1, 1), 0);
        due("PERSON 1 first: whatever he does, 1", k.shows(1, 0, 1), -1);
    }

    private static void theOneLessTheOther() {
        sentence = "DOGS in the PLACE of the one less DOGS in that of the other one";
        DogKings k = in("t3,1;m0,0,0;m2,0,0;m0,0,0;h0;h0;h0;h0;h0;h0;");
        due("6 less 0", k.shows(0, 1, 0), 6);
        due("0 less 6", k.shows(1, 0, 0), -6);
        due("in one PLACE", k.shows(0, 2, 0), 0);
        due("no DOGS", in("t3,1;m0,0,0;m2,0,0;").shows(0, 1, 2), 0);
        DogKings walkers = in("t3,1;m0,0,1;m2,0,0;h0;h0;h2;h2;h2;");
        due("at the BELL, behind the walks: 2 less 3", walkers.shows(0, 1, 0), -1);
        due("PEOPLE 0 to 4", in("t3,1;m0,0,0;m0,0,0;m0,0,0;m0,0,0;m2,0,0;h2;").shows(4, 0, 0), 1);
    }

    // ---- PACKS, HANGS

    private static void packsOfAll() {
        sentence = "PACKS: of all sets of DOGS, those by which one is KING of the next BELL: how many";
        String text = "t3,1;m0,0,0;";
        int[] due = {0, 1, 3, 7, 15, 31, 63};
        for (int dogs = 0; dogs <= 6; dogs++) {
            due("packs(0) by " + dogs, in(text).packs(0), due[dogs]);
            text += "h0;";
        }
        DogKings k = in("t3,1;m0,0,0;m2,0,0;h0;h0;h0;h2;h2;h2;");
        // 20 sets have as many DOGS at 0 as at 2, one of them none; of the 44 others each PERSON has half
        due("of several the least", k.packs(0), 41);
        due("the other one", k.packs(1), 22);
        due("nothing changes", k.count(2), 6);
        sentence = "were those alone there now (none of the others)";
        DogKings pack = in("t3,1;m0,0,0;k0;h1;h2;");
        // all those that have the hound of 1, who comes to 0, and the one of the pack by itself, who stays there
        due("by k, h1, h2", pack.packs(0), 5);
    }

    private static void hangsOnWhich() {
        sentence = "HANGS: DOGS (bits) without which, alone, the KING of the next BELL is another (or nobody)";
        due("no DOGS", in("t3,1;m0,0,0;").hangs(), 0);
        due("nobody without it", in("t3,1;m0,0,0;h0;").hangs(), 1);
        due("each without the other", in("t3,1;m0,0,0;h0;h0;").hangs(), 0);
        due("another", in("t3,1;m2,0,0;m0,0,0;h0;h2;h0;").hangs(), 5);
        due("of several the least: none", in("t3,1;m0,0,0;m2,0,0;h0;h0;h2;").hangs(), 0);
        due("of several the least: the one", in("t3,1;m0,0,0;m2,0,0;h0;h2;").hangs(), 1);
        due("DOGS 3 to 5", in("t9,1;m0,0,0;m8,0,0;p4;h0;h0;h8;h8;h8;").hangs(), 56);
        due("DOG 5 alone", in("t9,1;m0,0,0;p4;p4;p4;p4;p4;h0;").hangs(), 32);
        due("nobody ever", in("t9,1;m0,0,0;h8;h8;").hangs(), 0);
        due("somebody in place of nobody", in("t5,1;m0,0,0;k0;h4;").hangs(), 2);
        due("no TOWN", new DogKings().hangs(), STATE);
    }

    // ---- by ROWS

    private static void minutesOfARow() {
        sentence = "A row tells the PLACE of a DOG behind each of n MINUTES (1 to 12) from now on";
        DogKings k = in("t9,30;m8,0,0;h0;");
        rowOf(k, 0, 1, 2, 3, 4, 5, 6, 7, 8, 8, 8, 8, 8, 7);
        for (int n = 1; n <= 12; n++) {
            due("fits(0, 0, 0, " + n + ", 0)", k.fits(0, 0, 0, n, 0) & 2, 2);
            due("suits(0, 0, 0, 0, " + n + ", 1)", k.suits(0, 0, 0, 0, n, 1) & 1, 1);
        }
        for (int n : new int[] {-1, 0, 13, LOW, HIGH}) {
            due("fits(0, 0, 0, " + n + ", 0)", k.fits(0, 0, 0, n, 0), BAD);
            due("suits(0, 0, 0, 0, " + n + ", 1)", k.suits(0, 0, 0, 0, n, 1), BAD);
        }
        k.set(0, 11, 7);
        due("the 11 ahead", k.fits(0, 0, 0, 11, 0) & 2, 2);
        due("the 12th is another", k.fits(0, 0, 0, 12, 0) & 2, 0);
        k.set(0, 11, 8);
        k.set(0, 0, 0);
        due("the first is another", k.fits(0, 0, 0, 12, 0) & 2, 0);
        k.minutes(1);
        due("from now on", k.fits(0, 0, 1, 7, 0) & 2, 2);
    }

    private static void itemsOfARow() {
        sentence = "n ITEMS of a ROW from i on: PLACE";
        DogKings k = in("t9,30;m8,0,0;h0;");
        rowOf(k, 7, 0, 0, 1, 2, 3);
        due("to the last ITEM", k.fits(0, 7, 2, 3, 1) & 1, 1);
        due("to the last ITEM", k.suits(0, 0, 7, 2, 3, 0), 1023);
        due("the last ITEM", k.fits(0, 7, 4, 1, 1), 4);
        int[][] beyond = {{2, 4}, {3, 3}, {4, 2}, {5, 1}, {0, 6}, {-1, 1}, {-1, 12}, {HIGH, 1}, {HIGH, 12}, {LOW, 12}};
        for (int[] b : beyond) {
            due("fits(0, 7, " + b[0] + ", " + b[1] + ", 0)", k.fits(0, 7, b[0], b[1], 0), PLACE);
            due("suits(0, 0, 7, " + b[0] + ", " + b[1] + ", 0)", k.suits(0, 0, 7, b[0], b[1], 0), PLACE);
        }
        k.row(0, 2, 0);
        due("a ROW without ITEMS", k.fits(0, 0, 0, 1, 0), PLACE);
        due("a ROW without ITEMS", k.suits(0, 0, 0, 0, 1, 0), PLACE);
        due("NULL ahead of PLACE", k.fits(0, 1, -1, 1, 0), NULL);
        due("NULL ahead of PLACE", k.suits(0, 0, 1, -1, 1, 0), NULL);
        due("BAD ahead of NULL", k.fits(0, 1, 0, 13, 0), BAD);
        due("BAD ahead of NULL", k.suits(0, 0, 1, 0, 1, -1), BAD);
        for (int what : new int[] {-1, 2, LOW, HIGH}) {
            due("fits, what " + what, k.fits(0, 7, 2, 3, what), BAD);
            due("suits, what " + what, k.suits(0, 0, 7, 2, 3, what), BAD);
        }
        sentence = "ITEMS that are no PLACES";
        for (int lane = 0; lane <= 2; lane++) {
            k.row(3, lane, 1);
            for (int v : new int[] {-1, 9, 100, LOW + 9, HIGH}) {
                k.set(3, 0, v);
                due(v + " in LANE " + lane, k.fits(0, 3, 0, 1, 1), 0);
            }
        }
    }

    private static void sorts() {
        sentence = "SORTS: KINDS (bits 1 to 5) of it by which it is so";
        DogKings k = in("t5,4;m4,9,0;m0,0,0;h1;h1;k3;");
        // the others are at 1 and 3: the pack's PLACE is 1, the shy one's 0
        rowOf(k, 0, 2, 0, 1, 4);
        due("up: a hound, a pup", k.fits(0, 0, 0, 1, 0), 2 + 8);
        due("down: a terrier, a shy one", k.fits(0, 0, 1, 1, 0), 4 + 32);
        due("it stays: one of the pack", k.fits(0, 0, 2, 1, 0), 16);
        due("nothing goes so far", k.fits(0, 0, 3, 1, 0), 0);
        due("nothing changes", k.kind(0), 1);
        DogKings any = in("t9,1;m0,0,0;h3;");
        rowOf(any, 0, 3);
        due("any", any.fits(0, 0, 0, 1, 0), 62);
    }

    private static void fromWhere() {
        sentence = "FROM: PLACES (bits) of it now";
        DogKings k = in("t9,4;m0,0,0;h0;");
        rowOf(k, 0, 0, 7, 1, 8, 0);
        due("0 and 1", k.fits(0, 0, 0, 1, 1), 3);
        due("8", k.fits(0, 0, 1, 1, 1), 256);
        due("2", k.fits(0, 0, 2, 1, 1), 4);
        due("none", k.fits(0, 0, 3, 1, 1), 0);
        due("behind two MINUTES", k.fits(0, 0, 2, 2, 1), 0);
        k.minutes(3);
        due("HOME behind the BELL: each PLACE", k.fits(0, 0, 0, 1, 1), 511);
        due("nothing changes", k.dog(0, 0) + k.dog(0, 1) + k.count(7), 3);
        DogKings least = in("t3,1;m0,0,0;h2;");
        rowOf(least, 0, 2);
        due("of three PLACES", least.fits(0, 0, 0, 1, 1), 7);
    }

    private static void smells() {
        sentence = "SMELLS (0 to 9, bits) of a PERSON";
        DogKings k = in("t9,9;m0,5,0;m8,5,0;h4;");
        rowOf(k, 0, 3, 5, 4);
        due("5 and above, of several the least", k.suits(0, 0, 0, 0, 1, 0), 1023 - 31);
        due("below 5", k.suits(0, 0, 0, 1, 1, 0), 31);
        due("5 and below", k.suits(1, 0, 0, 0, 1, 0), 63);
        due("above 5", k.suits(1, 0, 0, 1, 1, 0), 1023 - 63);
        due("none", k.suits(0, 0, 0, 2, 1, 0), 0);
        due("nothing changes", k.person(0, 2) * 10 + k.person(1, 2), 55);
        DogKings pup = in("t9,9;m0,0,0;p8;p7;");
        rowOf(pup, 0, 7, 6);
        due("a pup: 9 alone is above 8", pup.suits(0, 0, 0, 0, 1, 0), 512);
        due("a pup: 8 and 9 are above 7", pup.suits(0, 1, 0, 1, 1, 0), 768);
        DogKings terrier = in("t9,9;m0,0,0;m8,0,0;t4;");
        rowOf(terrier, 0, 3, 5);
        due("a terrier: any", terrier.suits(1, 0, 0, 0, 1, 0), 1023);
        due("a terrier: none", terrier.suits(1, 0, 0, 1, 1, 0), 0);
    }

    private static void gaits() {
        sentence = "GAITS: WALKS (0 to 2, bits) of one";
        DogKings k = in("t9,9;m4,0,1;h4;");
        rowOf(k, 0, 4, 5, 3, 6);
        due("stays", k.suits(0, 0, 0, 0, 1, 1), 1);
        due("up", k.suits(0, 0, 0, 1, 1, 1), 2);
        due("down", k.suits(0, 0, 0, 2, 1, 1), 4);
        due("none", k.suits(0, 0, 0, 3, 1, 1), 0);
        due("nothing changes", k.person(0, 4) * 10 + k.person(0, 0), 14);
        DogKings far = in("t9,9;m0,0,1;h8;");
        rowOf(far, 0, 7);
        due("any", far.suits(0, 0, 0, 0, 1, 1), 7);
    }

    // ---- ASLEEP

    private static void asleepDue(DogKings k, String what, int person, int c, int above, int below) {
        due("above, " + what + ", c " + c, k.asleep(person, c, 0), above);
        due("below, " + what + ", c " + c, k.asleep(person, c, 1), below);
    }

    private static void asleepByTenths() {
        sentence = "ASLEEP: each DOG stays where it is by c of 10 (c 0 to 10)";
        DogKings k = in("t3,1;m0,0,0;m1,0,0;h1;");
        k.bones(0, 1);
        // awake it goes to PERSON 0, asleep it is by PERSON 1
        int[][] terms = {{0, 1}, {1, 10}, {1, 5}, {3, 10}, {2, 5}, {1, 2}, {3, 5}, {7, 10}, {4, 5}, {9, 10}, {1, 1}};
        for (int c = 0; c <= 10; c++) {
            asleepDue(k, "asleep", 1, c, terms[c][0], terms[c][1]);
            asleepDue(k, "awake", 0, c, terms[10 - c][0], terms[10 - c][1]);
        }
        for (int c : new int[] {-1, 11, LOW, HIGH}) {
            due("asleep(0, " + c + ", 0)", k.asleep(0, c, 0), BAD);
        }
        for (int what : new int[] {-1, 2, LOW, HIGH}) {
            due("asleep(0, 1, " + what + ")", k.asleep(0, 1, what), BAD);
        }
        due("nothing changes", k.dog(0, 0) + k.count(5), 1);
    }

    private static void lowestTerms() {
        sentence = "fractions, told as two numbers in lowest terms (0 is 0 by 1)";
        asleepDue(in("t3,1;m0,0,0;"), "no DOGS", 0, 5, 0, 1);
        asleepDue(in("t3,1;m0,0,0;h2;h2;h2;h2;h2;h2;"), "none can be there", 0, 5, 0, 1);
        asleepDue(in("t3,1;m0,0,0;h0;h0;h0;h0;h0;h0;"), "all are there", 0, 5, 1, 1);
        asleepDue(in("t3,1;m0,0,0;h1;h1;h1;h1;h1;h1;"), "one awake is enough", 0, 1, 999999, 1000000);
        asleepDue(in("t3,1;m0,0,0;h1;h1;h1;h1;h1;h1;"), "one awake is enough", 0, 5, 63, 64);
        asleepDue(in("t3,1;m0,0,0;h1;h1;h1;h1;h1;h1;"), "one awake is enough", 0, 9, 468559, 1000000);
        asleepDue(in("t3,1;m0,0,0;h1;h1;h1;h1;h1;h1;"), "one awake is enough", 0, 10, 0, 1);
        asleepDue(in("t3,1;m0,0,0;h1;h1;"), "each by itself", 0, 2, 24, 25);
    }

    private static void asleepTillTheBell() {
        sentence = "each DOG stays where it is till behind the next BELL";
        DogKings k = in("t9,3;m0,9,0;m8,0,0;h4;");
        k.put(0, 8);
        // asleep it lies at 8 for three MINUTES, by PERSON 1; awake it comes to 5
        asleepDue(k, "at 8", 1, 4, 2, 5);
        asleepDue(k, "on the way", 0, 4, 0, 1);
        k.minutes(2);
        asleepDue(k, "at 6", 1, 4, 0, 1);
        // KING 1 by the one of the pack alone awake: it goes for the PLACE of the shy one, that sleeps
        DogKings pack = in("t9,4;m0,0,0;m4,0,0;k0;s4;");
        asleepDue(pack, "those asleep are DOGS yet", 1, 5, 1, 4);
        asleepDue(pack, "those asleep are DOGS yet", 1, 1, 9, 100);
        asleepDue(pack, "any other way", 0, 5, 3, 4);
        asleepDue(pack, "both asleep: of several the least", 0, 10, 1, 1);
        asleepDue(pack, "both asleep: of several the least", 1, 10, 0, 1);
    }

    // ---- YEARS

    private static void yearsOfNone() {
        sentence = "YEARS of n FRIDAYS (0 to 9) by a SEED (1 to 999999)";
        DogKings k = in("t3,1;m0,0,0;m2,0,0;h1;");
        due("no FRIDAYS: how often nobody", k.drawn(0, 1, 0), 0);
        due("no FRIDAYS: no KING", k.drawn(0, 999999, 1), NONE);
        for (int n : new int[] {-1, 10, LOW, HIGH}) {
            due("drawn(" + n + ", 1, 0)", k.drawn(n, 1, 0), BAD);
        }
        for (int seed : new int[] {0, 1000000, -1, LOW, HIGH}) {
            due("drawn(1, " + seed + ", 0)", k.drawn(1, seed, 0), BAD);
        }
        for (int what : new int[] {-1, 2, LOW, HIGH}) {
            due("drawn(1, 1, " + what + ")", k.drawn(1, 1, what), BAD);
        }
        DogKings nobody = in("t9,1;m0,0,0;h8;");
        for (int n = 0; n <= 9; n++) {
            due("nobody, " + n, nobody.drawn(n, 1, 0), n);
            due("nobody, " + n, nobody.drawn(n, 1, 1), NONE);
        }
        sentence = "drawn: STATE: no TOWN (ahead of BAD)";
        DogKings none = new DogKings();
        due("as told", none.drawn(0, 1, 0), STATE);
        due("n", none.drawn(10, 1, 0), STATE);
        due("SEED", none.drawn(1, 0, 0), STATE);
        due("what", none.drawn(1, 1, 2), STATE);
    }

    private static void draws() {
        sentence = "X becomes the rest of (X times 16807) by 2147483647; the PERSON X by how many has X by 10 BONES";
        // from 999999 on X is 16806983193 less 7 times 2147483647, 1774597664: 4 BONES for PERSON 0 of 2, 2 of 3, 4 of 5
        due("of 2", in("t3,1;m0,0,0;m2,9,0;h1;").drawn(1, 999999, 1), 0);
        due("of 3", in("t3,1;m0,9,0;m0,9,0;m2,0,0;h1;").drawn(1, 999999, 1), 2);
        due("of 5", in("t3,1;m0,9,0;m0,9,0;m0,9,0;m0,9,0;m2,0,0;h1;").drawn(1, 999999, 1), 4);
        due("of 1: 4 BONES", in("t9,1;m0,0,0;h1;").drawn(1, 999999, 1), 0);
        due("12 less 1", in("t9,1;m0,0,0;p1;").drawn(1, 999999, 1), 0);
        // 12 BONES' worth of PERSON 2 against a SMELL of 9 and a BONE: as much; of several the least
        DogKings even = in("t3,1;m0,9,0;m0,0,0;m2,0,0;h1;");
        even.bones(0, 1);
        due("12 and 12", even.drawn(1, 999999, 1), 0);
        even.walk(1, 1);
        due("the others' BONES stay", even.person(0, 3), 1);
        // from 1 on X is 16807: 7 BONES for PERSON 1 of 2
        due("SEED 1", in("t3,1;m0,9,0;m2,0,0;h1;").drawn(1, 1, 1), 1);
        DogKings seven = in("t3,1;m0,0,0;m2,0,0;h1;");
        seven.bones(0, 7);
        due("7 and 7", seven.drawn(1, 1, 1), 0);
        seven.bones(0, 6);
        due("6 and 7", seven.drawn(1, 1, 1), 1);
        due("nothing changes", seven.person(1, 3), 0);
    }

    private static void drawsOfSeveral() {
        sentence = "the KING most often (of these), of several the least";
        // X by 2 and by 10 from 1 on: 1 7, 1 9, 1 3, 0 8, 0 0, 0 2, 0 4, 0 8, 1 3
        DogKings k = in("t3,1;m0,0,0;m2,0,0;h1;");
        k.bones(0, 6);
        int[] most = {NONE, 1, 1, 1, 0, 1, 1, 1, 0, 0};
        for (int n = 0; n <= 9; n++) {
            due("drawn(" + n + ", 1, 1)", k.drawn(n, 1, 1), most[n]);
            due("drawn(" + n + ", 1, 0)", k.drawn(n, 1, 0), 0);
        }
        k.bones(0, 8);
        due("0, then 1", k.drawn(2, 1, 1), 0);
        sentence = "has X by 10 BONES from then on";
        k.bones(0, 0);
        int[] then = {NONE, 1, 1, 1, 1, 1, 1, 1, 1, 1};
        for (int n = 0; n <= 9; n++) {
            due("drawn(" + n + ", 1, 1)", k.drawn(n, 1, 1), then[n]);
        }
    }

    private static void drawsFromNowOn() {
        sentence = "ahead of each MINUTE of them (from now on, to the n-th BELL)";
        // by SEED 1 X by 3 and by 10 is 1 7, 1 9, 2 3, 2 8; PERSON 0 has 8 BONES
        DogKings k = in("t9,2;m0,0,0;m8,0,0;m4,0,0;h4;");
        k.bones(0, 8);
        due("a draw a MINUTE: to 3 by 20 and 17, back to 4 by 21 and 22", k.drawn(1, 1, 1), 2);
        due("the second FRIDAY: to 5 by 23, to 6 by 24", k.drawn(2, 1, 0), 1);
        due("the second FRIDAY", k.drawn(2, 1, 1), 2);
        k.minutes(1);
        due("at the last MINUTE one draw is made: to 2 by 21 and 16", k.drawn(1, 1, 0), 1);
        due("at the last MINUTE", k.drawn(1, 1, 1), NONE);
        due("the second FRIDAY has the second draw first: to 5, to 6", k.drawn(2, 1, 0), 2);
        due("nothing changes", k.person(1, 3) * 10 + k.count(5), 1);
    }

    // ---- KINDS, ASKS, THE TRACE

    private static void kinds() {
        sentence = "KINDS of DOGS: 0 DOG; 1 HOUND, a DOG; 2 TERRIER, a HOUND; 3 PUP, a HOUND; 4 PACK, a DOG; 5 SHY, a PACK";
        DogKings k = in("t3,1;m0,0,0;h0;t1;p2;k0;s1;h2;");
        String[] are = {"01", "012", "013", "04", "045", "01"};
        for (int d = 0; d < 6; d++) {
            for (int kind = 0; kind <= 5; kind++) {
                boolean is = are[d].indexOf('0' + kind) >= 0;
                due("as(" + d + ", " + kind + ")", k.as(d, kind), is ? d : KIND);
                due("status() of as(" + d + ", " + kind + ")", k.status(), is ? 0 : 3);
            }
        }
        for (int kind : new int[] {-1, 6, LOW, HIGH}) {
            due("as(0, " + kind + ")", k.as(0, kind), BAD);
        }
        for (int d : new int[] {-1, 6, LOW, HIGH}) {
            due("as(" + d + ", 0)", k.as(d, 0), BAD);
            due("kind(" + d + ")", k.kind(d), BAD);
        }
    }

    private static void askDue(DogKings k, int dog, int what, int answer, int... trace) {
        due("ask(" + dog + ", " + what + ")", k.ask(dog, what), answer);
        for (int i = 0; i < 17; i++) {
            due("trace(" + i + ") of ask(" + dog + ", " + what + ")", k.trace(i), i < trace.length ? trace[i] : NONE);
        }
    }

    private static void asks() {
        sentence = "ASKS of DOGS, by BODIES: of HOME 0, PLACE 0, number 0";
        DogKings least = in("t9,9;m0,0,0;h0;");
        askDue(least, 0, 0, 0, 11, 10, 21, 20);
        askDue(least, 0, 1, 0, 21, 20);
        sentence = "ASKS of DOGS, by BODIES: of HOME 8, PLACE 8, number 5";
        askDue(in("t9,9;m0,0,0;h0;h0;h0;h0;h0;h8;"), 5, 0, 21, 11, 10, 21, 20);
        askDue(in("t9,9;m0,0,0;h0;h0;h0;h0;h0;t8;"), 5, 0, -34, 12, 11, 10, 24, 21, 20);
        askDue(in("t9,9;m0,0,0;h0;h0;h0;h0;h0;t8;"), 5, 1, 26, 24, 21, 20);
        askDue(in("t9,9;m0,0,0;h0;h0;h0;h0;h0;p8;"), 5, 0, -979, 11, 10, 22, 21, 20);
        askDue(in("t9,9;m0,0,0;h0;h0;h0;h0;h0;p8;"), 5, 1, -987, 22, 21, 20);
        askDue(in("t9,9;m0,0,0;h0;h0;h0;h0;h0;k8;"), 5, 0, -92, 13, 10);
        askDue(in("t9,9;m0,0,0;h0;h0;h0;h0;h0;k8;"), 5, 1, 97, 23, 20, 13, 10);
        askDue(in("t9,9;m0,0,0;h0;h0;h0;h0;h0;s8;"), 5, 0, -184, 14, 13, 10);
        askDue(in("t9,9;m0,0,0;h0;h0;h0;h0;h0;s8;"), 5, 1, 189, 23, 20, 14, 13, 10);
        sentence = "21 of HOUNDS: what 20 gives, and where it is (not HOME)";
        DogKings put = in("t9,9;m0,0,0;h2;t3;p4;k5;s6;");
        for (int d = 0; d < 5; d++) {
            put.put(d, 8);
        }
        askDue(put, 0, 0, 2 + 0 + 8, 11, 10, 21, 20);
        askDue(put, 1, 1, 2 * (1 + 8), 24, 21, 20);
        askDue(put, 2, 1, 2 + 8 - 1000, 22, 21, 20);
        askDue(put, 3, 0, 5 - 100, 13, 10);
        askDue(put, 4, 1, 4 - 2 * (6 - 100), 23, 20, 14, 13, 10);
        sentence = "An ASK (0, 1) of a DOG. BAD";
        for (int what : new int[] {-1, 2, LOW, HIGH}) {
            due("ask(0, " + what + ")", put.ask(0, what), BAD);
        }
        for (int d : new int[] {-1, 5, LOW, HIGH}) {
            due("ask(" + d + ", 0)", put.ask(d, 0), BAD);
        }
        due("THE TRACE is of the latest that was not refused", put.trace(0), 23);
    }

    private static void theTrace() {
        sentence = "Number i of THE TRACE; NONE";
        DogKings k = new DogKings();
        for (int i : new int[] {LOW, -1, 0, 1, 15, 16, HIGH}) {
            due("trace(" + i + ") ahead of all", k.trace(i), NONE);
        }
        k = in("t9,9;m0,0,0;t0;h0;");
        k.ask(0, 0);
        due("the first", k.trace(0), 12);
        due("the last", k.trace(5), 20);
        for (int i : new int[] {LOW, -1, 6, 15, 16, 17, HIGH}) {
            due("trace(" + i + ")", k.trace(i), NONE);
        }
        sentence = "THE TRACE is empty ahead of it";
        k.ask(1, 1);
        due("the first", k.trace(0), 21);
        due("the second", k.trace(1), 20);
        for (int i = 2; i < 7; i++) {
            due("trace(" + i + ")", k.trace(i), NONE);
        }
    }
}
