/** Terms (2) of pulls, minutes, bells and acts: each sentence that names a bound, on both sides of it. */
final class TownBoundTests extends TownTest {
    private static final Check CHECK = new Check("TownBoundTests");
    private static String sentence = "";

    private TownBoundTests() {
    }

    public static void main(String[] args) {
        howFarApart();
        bonesInAPull();
        theMostPull();
        aTerriersPull();
        aPupsPull();
        thePlaceOfMostOthers();
        thePlaceOfFewestOthers();
        theEndsOfTheStreet();
        theEndsOfTheLeastStreet();
        dogsBehindPeople();
        dogByDog();
        onePlaceOrNone();
        theBell();
        theBellOfEachMinute();
        theKing();
        nobody();
        home();
        reigns();
        fridays();
        actsThatAreKept();
        actsThatAreForgotten();
        eachActUndone();
        whatIsNoAct();
        actsBehindUndone();
        noActBehindARestore();
        CHECK.end();
    }

    private static void due(String what, long got, long want) {
        CHECK.due(sentence + " | " + what, got, want);
    }

    private static DogKings in(String text) {
        return in(CHECK, text);
    }

    /** The PERSON and the PLACE that DOG 0 goes for. */
    private static void goesFor(String text, int person, int place) {
        DogKings k = in(text);
        due("dog(0, 2) of " + text, k.dog(0, 2), person);
        due("dog(0, 3) of " + text, k.dog(0, 3), place);
    }

    // ---- whom a DOG goes for

    private static void howFarApart() {
        sentence = "less how many PLACES apart the two are (0 in one PLACE)";
        goesFor("t9,1;m0,8,0;m8,0,0;h8;", 0, 0);
        goesFor("t9,1;m0,7,0;m8,0,0;h8;", 1, 8);
        goesFor("t9,1;m0,0,0;m8,8,0;h0;", 0, 0);
        goesFor("t9,1;m0,0,0;m8,9,0;h0;", 1, 8);
        goesFor("t9,1;m3,0,0;m5,0,0;h4;", 0, 3);
        goesFor("t9,1;m2,0,0;m5,0,0;h4;", 1, 5);
        goesFor("t9,1;m3,0,0;m6,1,0;h4;", 0, 3);
        goesFor("t9,1;m3,0,0;m6,2,0;h4;", 1, 6);
    }

    private static void bonesInAPull() {
        sentence = "3 times BONES";
        DogKings k = in("t9,1;m0,0,0;m8,0,0;h7;t7;p7;");
        // a hound's, a terrier's and a pup's pull by PERSON 0: 3 BONES' worth less 7; by PERSON 1: less 1
        int[] favourites = {1, 1, 0, 0, 0, 0, 0, 0, 0, 0};
        for (int bones = 0; bones <= 9; bones++) {
            k.bones(0, bones);
            due("a hound, " + bones, k.dog(0, 2), favourites[bones]);
            due("a terrier, " + bones, k.dog(1, 2), favourites[bones]);
            due("a pup, " + bones, k.dog(2, 2), bones < 3 ? NONE : 0);
        }
        k.bones(1, 7);
        due("27 less 7, 21 less 1: of several the least", k.dog(0, 2), 0);
        k.bones(1, 8);
        due("27 less 7, 24 less 1", k.dog(0, 2), 1);
    }

    private static void theMostPull() {
        sentence = "A hound GOES FOR the PERSON whose PULL is most, of several the least";
        goesFor("t3,1;m1,5,0;m1,5,0;m1,5,0;m1,5,0;m1,5,0;h0;", 0, 1);
        goesFor("t3,1;m1,5,0;m1,6,0;m1,5,0;m1,6,0;m1,6,0;h0;", 1, 1);
        goesFor("t3,1;m1,5,0;m1,5,0;m1,5,0;m1,5,0;m2,7,0;h0;", 4, 2);
        goesFor("t9,1;m8,0,0;h0;", 0, 8);
        goesFor("t9,1;m8,0,0;m7,0,0;h0;", 1, 7);
        goesFor("t9,1;m4,0,0;h4;", 0, 4);
    }

    private static void aTerriersPull() {
        sentence = "a terrier likewise, but SMELL is left out of PULL";
        goesFor("t9,1;m0,9,0;m8,0,0;t5;", 1, 8);
        goesFor("t9,1;m0,9,0;m8,0,0;t4;", 0, 0);
        goesFor("t9,1;m0,0,0;m8,9,0;t4;", 0, 0);
        goesFor("t9,1;m0,0,0;m8,9,0;t3;", 0, 0);
        goesFor("t9,1;m0,9,0;m8,0,0;h5;", 0, 0);
        goesFor("t9,1;m8,0,0;t0;", 0, 8);
    }

    private static void aPupsPull() {
        sentence = "a pup as a hound, but only if that PULL is above 0 (else for nobody)";
        goesFor("t9,1;m0,8,0;p8;", NONE, NONE);
        goesFor("t9,1;m0,9,0;p8;", 0, 0);
        goesFor("t9,1;m0,1,0;p0;", 0, 0);
        goesFor("t9,1;m0,0,0;p0;", NONE, NONE);
        goesFor("t9,1;m0,0,0;p1;", NONE, NONE);
        goesFor("t9,1;m0,4,0;m8,6,0;p4;", 1, 8);
        goesFor("t9,1;m0,5,0;m8,5,0;p4;", 0, 0);
        DogKings k = in("t9,1;m0,0,0;p3;p2;p4;");
        k.bones(0, 1);
        due("3 less 3", k.dog(0, 2), NONE);
        due("3 less 2", k.dog(1, 2), 0);
        due("3 less 4", k.dog(2, 2), NONE);
    }

    private static void thePlaceOfMostOthers() {
        sentence = "One of the pack GOES FOR the PLACE in which most other DOGS are, of several the least (no other: for none)";
        goesFor("t9,1;m0,0,0;k4;", NONE, NONE);
        goesFor("t9,1;m0,0,0;k4;h8;", NONE, 8);
        goesFor("t9,1;m0,0,0;k4;h4;", NONE, 4);
        goesFor("t9,1;m0,0,0;k4;h8;h1;", NONE, 1);
        goesFor("t9,1;m0,0,0;k4;h8;h0;", NONE, 0);
        goesFor("t9,1;m0,0,0;k4;k4;s1;", NONE, 1);
        goesFor("t9,1;m0,0,0;k4;k4;k4;s1;", NONE, 4);
        goesFor("t9,1;m0,0,0;k4;h8;t8;p1;", NONE, 8);
        goesFor("t9,1;m0,0,0;k8;h0;h0;h7;h7;h7;", NONE, 7);
    }

    private static void thePlaceOfFewestOthers() {
        sentence = "a shy one for that in which the fewest other DOGS are, of several the least";
        goesFor("t9,1;m0,0,0;s4;", NONE, 0);
        goesFor("t9,1;m0,0,0;s4;h0;", NONE, 1);
        goesFor("t9,1;m0,0,0;s0;h0;", NONE, 1);
        goesFor("t9,1;m0,0,0;s4;h1;", NONE, 0);
        goesFor("t3,1;m0,0,0;s1;h0;h1;", NONE, 2);
        goesFor("t3,1;m0,0,0;s2;h0;h1;", NONE, 2);
        goesFor("t3,1;m0,0,0;s1;h0;h1;h2;", NONE, 0);
        goesFor("t3,1;m0,0,0;s0;h0;h0;h1;h2;", NONE, 1);
        goesFor("t3,1;m0,0,0;s0;h0;h0;h1;h1;h2;", NONE, 2);
        goesFor("t9,1;m0,0,0;s8;k0;k1;k2;k3;k4;", NONE, 5);
    }

    // ---- a MINUTE

    private static void walkers(String text, int[]... placesAndWalks) {
        DogKings k = in(text);
        for (int m = 0; m < placesAndWalks.length; m++) {
            k.minutes(1);
            for (int p = 0; 2 * p < placesAndWalks[m].length; p++) {
                due("PLACE of " + p + " behind " + (m + 1) + ", " + text, k.person(p, 0), placesAndWalks[m][2 * p]);
                due("WALK of " + p + " behind " + (m + 1) + ", " + text, k.person(p, 4), placesAndWalks[m][2 * p + 1]);
            }
        }
    }

    private static void theEndsOfTheStreet() {
        sentence = "at the end of the street one turns about, WALK is the other one, and goes the other way";
        walkers("t9,30;m7,0,1;m8,0,1;m1,0,2;m0,0,2;m0,0,1;",
                new int[] {8, 1, 7, 2, 0, 2, 1, 1, 1, 1},
                new int[] {7, 2, 6, 2, 1, 1, 2, 1, 2, 1},
                new int[] {6, 2, 5, 2, 2, 1, 3, 1, 3, 1});
        walkers("t9,30;m8,0,2;m0,0,0;m8,0,0;",
                new int[] {7, 2, 0, 0, 8, 0}, new int[] {6, 2, 0, 0, 8, 0});
    }

    private static void theEndsOfTheLeastStreet() {
        sentence = "at the end of the street one turns about, WALK is the other one, and goes the other way";
        walkers("t3,30;m1,0,1;m1,0,2;m2,0,1;m0,0,2;",
                new int[] {2, 1, 0, 2, 1, 2, 1, 1},
                new int[] {1, 2, 1, 1, 0, 2, 2, 1},
                new int[] {0, 2, 2, 1, 1, 1, 1, 2},
                new int[] {1, 1, 1, 2, 2, 1, 0, 2},
                new int[] {2, 1, 0, 2, 1, 2, 1, 1});
        sentence = "WALKS that change at the end of the street";
        DogKings k = in("t3,30;m2,0,0;m0,0,0;");
        k.walk(0, 1);
        k.walk(1, 2);
        k.minutes(1);
        due("PLACE of one told to go up at the upper end", k.person(0, 0), 1);
        due("WALK of one told to go up at the upper end", k.person(0, 4), 2);
        due("PLACE of one told to go down at the lower end", k.person(1, 0), 1);
        due("WALK of one told to go down at the lower end", k.person(1, 4), 1);
    }

    private static void dogsDue(String text, String places) {
        DogKings k = in(text);
        k.minutes(1);
        for (int d = 0; d < places.length(); d++) {
            due("DOG " + d + " behind a MINUTE of " + text, k.dog(d, 0), places.charAt(d) - '0');
        }
    }

    private static void dogsBehindPeople() {
        sentence = "Then DOG by DOG goes one PLACE towards what it GOES FOR, as all are by then (PEOPLE)";
        dogsDue("t9,30;m4,0,1;h4;", "5");
        dogsDue("t9,30;m4,0,2;h4;", "3");
        dogsDue("t9,30;m4,0,1;h5;", "5");
        // PULLS of -2 each ahead of the walk; then PERSON 1 is one PLACE away
        dogsDue("t9,30;m2,0,0;m6,0,2;h4;", "5");
        dogsDue("t9,30;m8,0,1;h8;", "7");
        // a pup's PULL is 0 ahead of the walk, then 1
        dogsDue("t9,30;m6,3,2;p3;", "4");
        dogsDue("t9,30;m5,2,1;p4;", "4");
    }

    private static void dogByDog() {
        sentence = "Then DOG by DOG goes one PLACE towards what it GOES FOR, as all are by then (DOGS)";
        dogsDue("t9,30;m0,0,0;h3;k2;", "22");
        dogsDue("t9,30;m0,0,0;k2;h3;", "32");
        dogsDue("t9,30;m0,0,0;h1;s1;", "01");
        dogsDue("t9,30;m0,0,0;s1;h1;", "00");
        dogsDue("t9,30;m0,0,0;k3;k5;", "44");
        dogsDue("t9,30;m0,0,0;k4;k5;", "55");
    }

    private static void onePlaceOrNone() {
        sentence = "goes one PLACE (it stays, if it is there, or GOES FOR none)";
        dogsDue("t9,30;m8,0,0;h0;t6;h7;t8;", "1788");
        dogsDue("t9,30;m0,0,0;h8;t2;h1;t0;", "7100");
        dogsDue("t9,30;m0,0,0;p5;", "5");
        dogsDue("t9,30;m0,9,0;p5;p8;", "47");
        dogsDue("t9,30;m0,8,0;p8;", "8");
        dogsDue("t9,30;m0,0,0;k5;", "5");
        dogsDue("t9,30;m0,0,0;s5;", "4");
        dogsDue("t9,30;m0,0,0;s0;", "0");
    }

    // ---- THE BELL

    private static void theBell() {
        sentence = "MINUTE is 1 more. If it is LONG then, THE BELL";
        DogKings k = in("t3,30;m0,0,0;h0;");
        for (int m = 1; m <= 29; m++) {
            due("minutes(1)", k.minutes(1), 0);
            due("MINUTE", k.count(5), m);
            due("no REIGNS yet", k.count(9), 0);
        }
        due("the 30th", k.minutes(1), 1);
        due("MINUTE", k.count(5), 0);
        due("REIGNS", k.count(9), 1);
        k.minutes(24);
        due("ahead of the second BELL", k.minutes(5), 1);
        due("MINUTE", k.count(5), 29);
        due("the second BELL", k.minutes(2), 2);
        due("MINUTE", k.count(5), 1);
    }

    private static void theBellOfEachMinute() {
        sentence = "MINUTE is 1 more. If it is LONG then, THE BELL (LONG 1)";
        DogKings k = in("t3,1;m0,0,0;h0;");
        for (int friday = 1; friday <= 5; friday++) {
            due("minutes(1)", k.minutes(1), friday);
            due("MINUTE", k.count(5), 0);
            due("REIGNS", k.count(9), friday);
        }
    }

    private static void kingDue(String text, int king) {
        DogKings k = in(text);
        due("crowned(1) of " + text, k.crowned(1), king);
        k.minutes(k.count(6));
        for (int p = 0; p < k.count(3); p++) {
            due("REIGNS of " + p + ", " + text, k.person(p, 5), p == king ? 1 : 0);
        }
        due("REIGNS of all, " + text, k.count(9), king == NONE ? 0 : 1);
        due("FRIDAY, " + text, k.count(4), 1);
    }

    private static void theKing() {
        sentence = "the KING is the PERSON in whose PLACE most DOGS are, of several the least";
        kingDue("t3,1;m0,0,0;m2,0,0;h0;h2;h2;", 1);
        kingDue("t3,1;m0,0,0;m2,0,0;h0;h0;h2;", 0);
        kingDue("t3,1;m0,0,0;m2,0,0;h0;h2;", 0);
        kingDue("t3,1;m2,0,0;m0,0,0;h0;h2;", 0);
        kingDue("t3,1;m0,0,0;m0,0,0;m0,0,0;h0;", 0);
        kingDue("t9,1;m0,0,0;m2,0,0;m4,0,0;m6,0,0;m8,0,0;h8;", 4);
        kingDue("t9,1;m0,0,0;m2,0,0;m4,0,0;m6,0,0;m8,0,0;h8;h6;", 3);
        kingDue("t9,1;m0,0,0;m2,0,0;m4,0,0;m6,0,0;m8,0,0;h0;h8;h6;h8;h6;h0;", 0);
        kingDue("t3,1;m0,0,0;h1;", 0);
        kingDue("t3,1;m0,0,1;h0;", 0);
    }

    private static void nobody() {
        sentence = "no DOG is where anybody is: nobody";
        kingDue("t3,1;m0,0,0;", NONE);
        kingDue("t3,1;m0,0,0;h2;", NONE);
        kingDue("t3,1;m0,0,0;m2,0,0;p1;", NONE);
        kingDue("t9,2;m0,0,0;h3;h3;h3;", NONE);
        kingDue("t9,3;m0,0,0;h3;h4;h4;", 0);
    }

    private static void home() {
        sentence = "all are at HOME, MINUTE is 0, FRIDAY 1 more; WALKS stay";
        DogKings k = in("t5,2;m4,0,1;m1,9,2;m2,0,0;h1;t4;p3;k0;s2;h4;");
        k.put(0, 4);
        k.bones(1, 2);
        k.minutes(1);
        k.put(3, 3);
        due("FRIDAY", k.minutes(1), 1);
        due("MINUTE", k.count(5), 0);
        int[] homes = {4, 1, 2};
        int[] walks = {2, 1, 0};
        int[] bones = {0, 2, 0};
        for (int p = 0; p < 3; p++) {
            due("PERSON " + p + " is at HOME", k.person(p, 0), homes[p]);
            due("WALK of PERSON " + p + " stays as it is by then", k.person(p, 4), walks[p]);
            due("BONES of PERSON " + p + " stay", k.person(p, 3), bones[p]);
        }
        int[] kennels = {1, 4, 3, 0, 2, 4};
        for (int d = 0; d < 6; d++) {
            due("DOG " + d + " is at HOME", k.dog(d, 0), kennels[d]);
        }
    }

    private static void reigns() {
        sentence = "REIGNS of the KING are 1 more (999 at most)";
        DogKings k = in("t3,1;m0,0,0;m2,0,0;h0;");
        pass(k, 997);
        due("997", k.person(0, 5), 997);
        k.minutes(1);
        due("998", k.person(0, 5), 998);
        k.minutes(1);
        due("999", k.person(0, 5), 999);
        k.undo();
        due("998 again", k.person(0, 5), 998);
        k.minutes(2);
        due("999 behind 1000 FRIDAYS", k.person(0, 5), 999);
        due("1000 FRIDAYS", k.count(4), 1000);
        due("REIGNS of all", k.count(9), 999);
        due("the other one has none", k.person(1, 5), 0);
        due("KING yet", k.crowned(9), 0);
        k.undo();
        due("999 behind 999 FRIDAYS", k.person(0, 5), 999);
    }

    private static void fridays() {
        sentence = "FULL: FRIDAY is 999 or above";
        DogKings k = in("t3,1;m0,0,0;h0;");
        pass(k, 998);
        due("998", k.count(4), 998);
        due("not FULL at 998", k.minutes(24), 1022);
        due("FULL above 999", k.minutes(1), FULL);
        due("FULL above 999", k.minutes(24), FULL);
        due("BAD ahead of FULL", k.minutes(0), BAD);
        due("BAD ahead of FULL", k.minutes(25), BAD);
        due("FRIDAY", k.count(4), 1022);
        due("ACTS", k.count(7), 24);
        for (int n = 23; n >= 1; n--) {
            k.undo();
        }
        due("999", k.count(4), 999);
        due("FULL at 999", k.minutes(1), FULL);
        due("foretold yet", k.crowned(9), 0);
        due("foretold yet", k.heir(0), 1);
        due("foretold yet", k.ahead(0, 60), 0);
        due("drawn yet", k.drawn(9, 1, 1), 0);
        due("other ACTS yet", k.bones(0, 1), 0);
        due("other ACTS yet", k.put(0, 1), 0);
        k.undo();
        k.undo();
        k.undo();
        due("998 again", k.count(4), 998);
        due("not FULL at 998", k.minutes(1), 999);
        sentence = "FULL: FRIDAY is 999 or above (LONG 2)";
        DogKings slow = in("t3,2;m0,0,0;h0;");
        for (int n = 0; n < 83; n++) {
            slow.minutes(24);
        }
        due("the last MINUTE of FRIDAY 998", slow.minutes(5), 998);
        due("its BELL", slow.minutes(1), 999);
        due("FULL at 999", slow.minutes(1), FULL);
    }

    // ---- ACTS

    private static void actsThatAreKept() {
        sentence = "ACTS (24 at most are kept)";
        DogKings k = in("t9,30;m0,0,0;");
        due("none", k.undo(), STATE);
        for (int n = 1; n <= 24; n++) {
            k.minutes(1);
            due("ACTS", k.count(7), n);
        }
        k.minutes(1);
        due("25", k.count(7), 24);
        k.bones(0, 1);
        due("26", k.count(7), 24);
        for (int n = 23; n >= 0; n--) {
            due("undo()", k.undo(), n);
        }
        due("none is left", k.undo(), STATE);
        due("none is left", k.count(7), 0);
        due("the two oldest are forgotten", k.count(5), 2);
    }

    private static void actsThatAreForgotten() {
        sentence = "of more the oldest is forgotten";
        DogKings k = in("t3,30;m0,0,0;");
        for (int n = 1; n <= 60; n++) {
            k.bones(0, n % 10);
        }
        for (int n = 59; n >= 36; n--) {
            due("undo()", k.undo(), n - 36);
            due("BONES", k.person(0, 3), n % 10);
        }
        due("the 25th", k.undo(), STATE);
        due("24 MINUTES in one call push all others out", k.minutes(24), 0);
        k.bones(0, 1);
        due("24 MINUTES in one call push all others out", k.minutes(24), 1);
        due("ACTS", k.count(7), 24);
        for (int n = 0; n < 24; n++) {
            k.undo();
        }
        due("MINUTE", k.count(5), 24);
        due("BONES", k.person(0, 3), 1);
    }

    private static void eachActUndone() {
        sentence = "each can be undone, the latest first: a MINUTE";
        DogKings k = in("t3,2;m2,0,1;h0;");
        k.minutes(1);
        due("the BELL", k.minutes(1), 1);
        due("REIGNS", k.person(0, 5), 1);
        due("undo() of the BELL", k.undo(), 1);
        due("FRIDAY", k.count(4), 0);
        due("MINUTE", k.count(5), 1);
        due("REIGNS", k.person(0, 5), 0);
        due("PERSON", k.person(0, 0), 1);
        due("WALK", k.person(0, 4), 2);
        due("DOG", k.dog(0, 0), 1);
        due("undo()", k.undo(), 0);
        due("MINUTE", k.count(5), 0);
        due("PERSON", k.person(0, 0), 2);
        due("WALK", k.person(0, 4), 1);
        due("DOG", k.dog(0, 0), 0);
        sentence = "a PERSON has other BONES; another WALK; a DOG is put on a PLACE (HOME stays)";
        k.bones(0, 9);
        k.walk(0, 2);
        k.put(0, 2);
        due("HOME stays", k.dog(0, 1), 0);
        due("undo()", k.undo(), 2);
        due("the DOG", k.dog(0, 0), 0);
        due("WALK yet", k.person(0, 4), 2);
        due("undo()", k.undo(), 1);
        due("the WALK", k.person(0, 4), 1);
        due("BONES yet", k.person(0, 3), 9);
        due("undo()", k.undo(), 0);
        due("the BONES", k.person(0, 3), 0);
    }

    private static void whatIsNoAct() {
        sentence = "ACTS: other BONES; another WALK; a DOG is put on a PLACE";
        DogKings k = in("t3,2;m2,0,1;h0;");
        due("no other BONES", k.bones(0, 0), 0);
        due("no other WALK", k.walk(0, 1), 1);
        due("it is there", k.put(0, 0), STATE);
        due("none", k.count(7), 0);
        due("none", k.undo(), STATE);
        k.bones(0, 9);
        due("no other BONES", k.bones(0, 9), 9);
        due("one", k.count(7), 1);
        k.image(0);
        k.row(0, 0, 1);
        k.crowned(1);
        k.drawn(9, 1, 0);
        k.shows(0, 0, 1);
        k.ask(0, 1);
        due("what is foretold, asked, kept is none", k.count(7), 1);
        k.undo();
        due("BONES", k.person(0, 3), 0);
    }

    private static void actsBehindUndone() {
        sentence = "each can be undone, the latest first (and ACTS behind some that were undone)";
        DogKings k = in("t9,30;m0,0,0;h0;");
        for (int n = 1; n <= 9; n++) {
            k.bones(0, n);
        }
        for (int n = 8; n >= 4; n--) {
            due("undo()", k.undo(), n);
        }
        k.put(0, 8);
        k.walk(0, 1);
        due("ACTS", k.count(7), 6);
        due("undo()", k.undo(), 5);
        due("undo()", k.undo(), 4);
        due("the DOG", k.dog(0, 0), 0);
        for (int n = 3; n >= 0; n--) {
            due("undo()", k.undo(), n);
            due("BONES", k.person(0, 3), n);
        }
        due("none", k.undo(), STATE);
    }

    private static void noActBehindARestore() {
        sentence = "The TOWN is as an IMAGE kept it (no ACT can be undone then)";
        DogKings k = in("t9,30;m0,0,0;h0;");
        k.bones(0, 1);
        k.image(0);
        k.minutes(24);
        due("refused", k.restore(1), STATE);
        due("ACTS yet", k.count(7), 24);
        due("restore(0)", k.restore(0), 1);
        due("ACTS", k.count(7), 0);
        due("none", k.undo(), STATE);
        k.bones(0, 2);
        due("one anew", k.undo(), 0);
        due("BONES as the IMAGE kept them", k.person(0, 3), 1);
        due("none", k.undo(), STATE);
    }
}
