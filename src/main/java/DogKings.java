/**
 * A street on which the dogs crown a king every Friday.
 *
 * ../shared/DOC.md tells what each method answers; the words in capital letters are the document's.
 */
public final class DogKings {
    public static final int NONE = -1000000, BAD = -1000001, STATE = -1000002, FULL = -1000003;

    private static final int FINDINGS = -1000010;
    private static final int NULL = 1, PLACE = 2, KIND = 3, SIZE = 4, STORE = 5;
    private static final int FAULTS = -1000100;

    private static final int ROWS = 8, MOST_ITEMS = 40;
    private static final int BYTES = 0, SHORTS = 1, INTS = 2;
    private static final int MISSING = -1;

    private static final int LEAST_PLACES = 3, MOST_PLACES = 9, LONGEST = 30;
    private static final int MOST_PEOPLE = 5, MOST_DOGS = 6;
    private static final int MOST_SMELL = 9, MOST_BONES = 9, MOST_REIGNS = 999;
    private static final int STAYS = 0, UP = 1, DOWN = 2;

    private static final int DOG = 0, HOUND = 1, TERRIER = 2, PUP = 3, PACK = 4, SHY = 5;

    private static final int LAST_FRIDAY = 999, MOST_MINUTES_A_CALL = 24;
    private static final int FORESEEN_MINUTES = 60, FORESEEN_FRIDAYS = 9;
    private static final int MOST_TOLD = 12, MOST_SHOWN = 2, MOST_SEED = 999999;
    private static final int MOST_YEARS = 9, CERTAIN = 10;
    private static final int IMAGES = 2;

    /** What of a DOG or a PERSON may be taken to be another than it is. */
    private static final int SORT = 0, FROM = 1, SMELL = 2, GAIT = 3, BONE = 4;

    private final int[][] items = new int[ROWS][MOST_ITEMS];
    private final int[] lanes = new int[ROWS];
    private final int[] sizes = {
        MISSING, MISSING, MISSING, MISSING, MISSING, MISSING, MISSING, MISSING
    };
    private int finding;

    private final Reader reader = new Reader();
    private final Town now = new Town();
    private final Town[] images = {new Town(), new Town()};
    private final Acts acts = new Acts();
    private final Seer seer = new Seer(now);
    private final Asks asks = new Asks(now);

    public DogKings() {
    }

    // ---- rows

    public int row(int row, int lane, int n) {
        if (!isRow(row) || !isUpTo(lane, INTS) || n > MOST_ITEMS) {
            return BAD;
        }
        if (n < 0) {
            return found(SIZE);
        }
        for (int i = 0; i < n; i++) {
            items[row][i] = 0;
        }
        lanes[row] = lane;
        sizes[row] = n;
        return nothingFound(n);
    }

    public int set(int row, int i, int v) {
        if (!isRow(row)) {
            return BAD;
        }
        if (isMissing(row)) {
            return found(NULL);
        }
        if (i < 0 || i >= sizes[row]) {
            return found(PLACE);
        }
        items[row][i] = cutTo(lanes[row], v);
        return nothingFound(items[row][i]);
    }

    public int copy(int a, int i, int b, int j, int n) {
        if (!isRow(a) || !isRow(b)) {
            return BAD;
        }
        if (isMissing(a) || isMissing(b)) {
            return found(NULL);
        }
        if (lanes[a] != lanes[b]) {
            return found(STORE);
        }
        if (!hasItems(a, i, n) || !hasItems(b, j, n)) {
            return found(PLACE);
        }
        System.arraycopy(items[a], i, items[b], j, n);
        return nothingFound(n);
    }

    public int drop(int row) {
        if (!isRow(row)) {
            return BAD;
        }
        if (isMissing(row)) {
            return found(NULL);
        }
        int size = sizes[row];
        sizes[row] = MISSING;
        return nothingFound(size);
    }

    // ---- towns, acts

    public int feed(int letter) {
        if (!isUpTo(letter, 255)) {
            return BAD;
        }
        return reader.isFull() ? FULL : reader.append(letter);
    }

    public int town() {
        if (!reader.reads()) {
            return FAULTS - reader.faultPlace;
        }
        now.become(reader.draft);
        acts.forget();
        return now.dogs;
    }

    public int fault() {
        return reader.faultNumber;
    }

    public int minutes(int n) {
        if (!now.stands()) {
            return STATE;
        }
        if (n < 1 || n > MOST_MINUTES_A_CALL) {
            return BAD;
        }
        if (now.friday >= LAST_FRIDAY) {
            return FULL;
        }
        for (int m = 0; m < n; m++) {
            acts.keep(now);
            now.pass();
        }
        return now.friday;
    }

    public int bones(int person, int v) {
        if (!isPerson(person) || !isUpTo(v, MOST_BONES)) {
            return BAD;
        }
        int before = now.bones[person];
        if (v != before) {
            acts.keep(now);
            now.bones[person] = v;
        }
        return before;
    }

    public int walk(int person, int v) {
        if (!isPerson(person) || !isUpTo(v, DOWN)) {
            return BAD;
        }
        int before = now.gait[person];
        if (v != before) {
            acts.keep(now);
            now.gait[person] = v;
        }
        return before;
    }

    public int put(int dog, int place) {
        if (!isDog(dog) || !isPlace(place)) {
            return BAD;
        }
        int before = now.dogAt[dog];
        if (place == before) {
            return STATE;
        }
        acts.keep(now);
        now.dogAt[dog] = place;
        return before;
    }

    public int undo() {
        return acts.kept == 0 ? STATE : acts.takeBack(now);
    }

    public int dog(int dog, int what) {
        if (!isDog(dog)) {
            return BAD;
        }
        switch (what) {
            case 0: return now.dogAt[dog];
            case 1: return now.dogHome[dog];
            case 2: return now.favourite(dog);
            case 3: return now.goal(dog);
            default: return BAD;
        }
    }

    public int person(int person, int what) {
        if (!isPerson(person)) {
            return BAD;
        }
        switch (what) {
            case 0: return now.personAt[person];
            case 1: return now.personHome[person];
            case 2: return now.smell[person];
            case 3: return now.bones[person];
            case 4: return now.gait[person];
            case 5: return now.reigns[person];
            case 6: return now.dogsIn(now.personAt[person]);
            default: return BAD;
        }
    }

    // ---- foretold

    public int ahead(int dog, int d) {
        return isDog(dog) && isUpTo(d, FORESEEN_MINUTES) ? seer.dogLater(dog, d) : BAD;
    }

    public int goes(int person, int d) {
        return isPerson(person) && isUpTo(d, FORESEEN_MINUTES) ? seer.personLater(person, d) : BAD;
    }

    public int crowned(int n) {
        if (!now.stands()) {
            return STATE;
        }
        return n < 1 || n > FORESEEN_FRIDAYS ? BAD : seer.kingOfBell(n);
    }

    public int heir(int person) {
        return isPerson(person) ? seer.minutesToReign(person) : BAD;
    }

    public int least(int person) {
        return isPerson(person) ? seer.fewestBones(person) : BAD;
    }

    public int walks(int person) {
        return isPerson(person) ? seer.gaitsOfAKing(person) : BAD;
    }

    public int cats(int place, int what) {
        if (!isPlace(place) || !isUpTo(what, 1)) {
            return BAD;
        }
        int which = seer.fewestCats(place);
        return what == 0 && which != NONE ? Integer.bitCount(which) : which;
    }

    public int shows(int one, int other, int n) {
        if (!isPerson(one) || !isPerson(other) || one == other || !isUpTo(n, MOST_SHOWN)) {
            return BAD;
        }
        return seer.outcome(one, other, now.bones[one], now.bones[other], 2 * n);
    }

    public int packs(int person) {
        return isPerson(person) ? seer.packsThatCrown(person) : BAD;
    }

    public int hangs() {
        return now.stands() ? seer.dogsThatDecide() : STATE;
    }

    public int fits(int dog, int row, int i, int n, int what) {
        if (!isDog(dog) || !isRow(row) || n < 1 || n > MOST_TOLD || !isUpTo(what, 1)) {
            return BAD;
        }
        int trouble = troubleWith(row, i, n);
        if (trouble != 0) {
            return found(trouble);
        }
        return nothingFound(seer.guesses(what == 0 ? SORT : FROM, dog, dog, items[row], i, n));
    }

    public int suits(int person, int dog, int row, int i, int n, int what) {
        if (!isPerson(person) || !isDog(dog) || !isRow(row)
                || n < 1 || n > MOST_TOLD || !isUpTo(what, 1)) {
            return BAD;
        }
        int trouble = troubleWith(row, i, n);
        if (trouble != 0) {
            return found(trouble);
        }
        return nothingFound(seer.guesses(what == 0 ? SMELL : GAIT, person, dog, items[row], i, n));
    }

    public int asleep(int person, int c, int what) {
        if (!isPerson(person) || !isUpTo(c, CERTAIN) || !isUpTo(what, 1)) {
            return BAD;
        }
        int above = seer.chancesAsleep(person, c);
        int below = power(CERTAIN, now.dogs);
        int common = Math.max(1, commonDivisor(above, below));
        return (what == 0 ? above : below) / common;
    }

    public int drawn(int n, int seed, int what) {
        if (!now.stands()) {
            return STATE;
        }
        if (!isUpTo(n, MOST_YEARS) || seed < 1 || seed > MOST_SEED || !isUpTo(what, 1)) {
            return BAD;
        }
        seer.drawYears(n, seed);
        return what == 0 ? seer.kingless : seer.kingMostOften();
    }

    public int image(int k) {
        if (!isUpTo(k, IMAGES - 1)) {
            return BAD;
        }
        if (!now.stands()) {
            return STATE;
        }
        images[k].become(now);
        return 1;
    }

    public int restore(int k) {
        if (!isUpTo(k, IMAGES - 1)) {
            return BAD;
        }
        if (!images[k].stands()) {
            return STATE;
        }
        now.become(images[k]);
        acts.forget();
        return 1;
    }

    // ---- asked

    public int kind(int dog) {
        return isDog(dog) ? now.sort[dog] : BAD;
    }

    public int as(int dog, int kind) {
        if (!isDog(dog) || !isUpTo(kind, SHY)) {
            return BAD;
        }
        return isA(now.sort[dog], kind) ? nothingFound(dog) : found(KIND);
    }

    public int ask(int dog, int what) {
        return isDog(dog) && isUpTo(what, 1) ? asks.answer(dog, what) : BAD;
    }

    public int trace(int i) {
        return asks.begun(i);
    }

    public int count(int what) {
        switch (what) {
            case 0: return rowsThatStand();
            case 1: return now.places;
            case 2: return now.dogs;
            case 3: return now.people;
            case 4: return now.friday;
            case 5: return now.minute;
            case 6: return now.fridayLasts;
            case 7: return acts.kept;
            case 8: return reader.bytes;
            case 9: return now.allReigns();
            default: return BAD;
        }
    }

    public int status() {
        return finding;
    }

    // ---- what the arguments are tested by

    private static boolean isUpTo(int n, int most) {
        return n >= 0 && n <= most;
    }

    private static boolean isRow(int row) {
        return isUpTo(row, ROWS - 1);
    }

    private boolean isPlace(int place) {
        return place >= 0 && place < now.places;
    }

    private boolean isPerson(int person) {
        return person >= 0 && person < now.people;
    }

    private boolean isDog(int dog) {
        return dog >= 0 && dog < now.dogs;
    }

    private boolean isMissing(int row) {
        return sizes[row] == MISSING;
    }

    private boolean hasItems(int row, int i, int n) {
        return i >= 0 && n >= 0 && i <= sizes[row] - n;
    }

    private int troubleWith(int row, int i, int n) {
        if (isMissing(row)) {
            return NULL;
        }
        return hasItems(row, i, n) ? 0 : PLACE;
    }

    private int found(int number) {
        finding = number;
        return FINDINGS - number;
    }

    private int nothingFound(int answer) {
        finding = 0;
        return answer;
    }

    private static int cutTo(int lane, int v) {
        switch (lane) {
            case BYTES: return (byte) v;
            case SHORTS: return (short) v;
            default: return v;
        }
    }

    private int rowsThatStand() {
        int n = 0;
        for (int row = 0; row < ROWS; row++) {
            if (!isMissing(row)) {
                n++;
            }
        }
        return n;
    }

    // ---- sets and numbers

    private static boolean holds(int set, int member) {
        return (set >> member & 1) == 1;
    }

    private static int setOfAll(int n) {
        return (1 << n) - 1;
    }

    private static int power(int base, int times) {
        int product = 1;
        for (int i = 0; i < times; i++) {
            product *= base;
        }
        return product;
    }

    /** The greatest that divides both; of 0 and another number, that other one. */
    private static int commonDivisor(int a, int b) {
        // 50 turns are above what Euclid needs for any two ints
        for (int turn = 0; turn < 50 && b != 0; turn++) {
            int rest = a % b;
            a = b;
            b = rest;
        }
        return a;
    }

    private static boolean isA(int sort, int kind) {
        switch (kind) {
            case DOG: return true;
            case HOUND: return sort == HOUND || sort == TERRIER || sort == PUP;
            case PACK: return sort == PACK || sort == SHY;
            default: return sort == kind;
        }
    }

    /** A TOWN at one time: its law, its PEOPLE, its DOGS. With no PLACES it is none. */
    private static final class Town {
        int places, fridayLasts, friday, minute;

        int people;
        final int[] personHome = new int[MOST_PEOPLE];
        final int[] smell = new int[MOST_PEOPLE];
        final int[] personAt = new int[MOST_PEOPLE];
        final int[] bones = new int[MOST_PEOPLE];
        final int[] gait = new int[MOST_PEOPLE];
        final int[] reigns = new int[MOST_PEOPLE];

        int dogs;
        final int[] sort = new int[MOST_DOGS];
        final int[] dogHome = new int[MOST_DOGS];
        final int[] dogAt = new int[MOST_DOGS];

        /** Only what is foretold has DOGS that are not there or asleep, and cats. */
        int dogsThere, dogsAsleep, cats;

        private final int[] others = new int[MOST_PLACES];

        boolean stands() {
            return places > 0;
        }

        void become(Town t) {
            places = t.places;
            fridayLasts = t.fridayLasts;
            friday = t.friday;
            minute = t.minute;
            people = t.people;
            for (int p = 0; p < people; p++) {
                personHome[p] = t.personHome[p];
                smell[p] = t.smell[p];
                personAt[p] = t.personAt[p];
                bones[p] = t.bones[p];
                gait[p] = t.gait[p];
                reigns[p] = t.reigns[p];
            }
            dogs = t.dogs;
            for (int d = 0; d < dogs; d++) {
                sort[d] = t.sort[d];
                dogHome[d] = t.dogHome[d];
                dogAt[d] = t.dogAt[d];
            }
            dogsThere = t.dogsThere;
            dogsAsleep = t.dogsAsleep;
            cats = t.cats;
        }

        void begin(int streetPlaces, int minutesOfAFriday) {
            places = streetPlaces;
            fridayLasts = minutesOfAFriday;
            friday = 0;
            minute = 0;
            people = 0;
            dogs = 0;
            dogsThere = 0;
            dogsAsleep = 0;
            cats = 0;
        }

        void settle(int home, int itsSmell, int itsGait) {
            if (people >= MOST_PEOPLE) {
                return;
            }
            personHome[people] = home;
            smell[people] = itsSmell;
            personAt[people] = home;
            bones[people] = 0;
            gait[people] = itsGait;
            reigns[people] = 0;
            people++;
        }

        void kennel(int itsSort, int home) {
            if (dogs >= MOST_DOGS) {
                return;
            }
            sort[dogs] = itsSort;
            dogHome[dogs] = home;
            dogAt[dogs] = home;
            dogs++;
            dogsThere = setOfAll(dogs);
        }

        void take(int trait, int who, int v) {
            switch (trait) {
                case SORT: sort[who] = v; break;
                case FROM: dogAt[who] = v; break;
                case SMELL: smell[who] = v; break;
                case GAIT: gait[who] = v; break;
                case BONE: bones[who] = v; break;
                default: break;
            }
        }

        int allReigns() {
            int sum = 0;
            for (int p = 0; p < people; p++) {
                sum += reigns[p];
            }
            return sum;
        }

        int dogsIn(int place) {
            int set = 0;
            for (int d = 0; d < dogs; d++) {
                if (holds(dogsThere, d) && dogAt[d] == place) {
                    set |= 1 << d;
                }
            }
            return set;
        }

        /** A MINUTE: the KING of its BELL, NONE if nobody is crowned in it. */
        int pass() {
            stir();
            return atBell() ? ring() : NONE;
        }

        /** A MINUTE, but for THE BELL: most of what is foretold asks who is where at it. */
        void stir() {
            for (int p = 0; p < people; p++) {
                stroll(p);
            }
            for (int d = 0; d < dogs; d++) {
                if (holds(dogsThere, d) && !holds(dogsAsleep, d)) {
                    trot(d, goal(d));
                }
            }
            minute++;
        }

        boolean atBell() {
            return minute >= fridayLasts;
        }

        void runToBell() {
            for (int left = fridayLasts - minute; left > 0; left--) {
                stir();
            }
        }

        int kingAtBell() {
            int king = NONE;
            int most = 0;
            for (int p = 0; p < people; p++) {
                int n = Integer.bitCount(dogsIn(personAt[p]));
                if (n > most) {
                    most = n;
                    king = p;
                }
            }
            return king;
        }

        int ring() {
            int king = kingAtBell();
            if (king >= 0 && king < people && reigns[king] < MOST_REIGNS) {
                reigns[king]++;
            }
            for (int p = 0; p < people; p++) {
                personAt[p] = personHome[p];
            }
            for (int d = 0; d < dogs; d++) {
                dogAt[d] = dogHome[d];
            }
            minute = 0;
            friday++;
            return king;
        }

        private void stroll(int p) {
            if (gait[p] == UP && personAt[p] == places - 1) {
                gait[p] = DOWN;
            } else if (gait[p] == DOWN && personAt[p] == 0) {
                gait[p] = UP;
            }
            if (gait[p] != STAYS) {
                personAt[p] += gait[p] == UP ? 1 : -1;
            }
        }

        private void trot(int d, int goal) {
            if (goal == NONE || goal == dogAt[d]) {
                return;
            }
            int next = dogAt[d] + (goal > dogAt[d] ? 1 : -1);
            if (!holds(cats, next)) {
                dogAt[d] = next;
            }
        }

        /** The PLACE that a DOG GOES FOR, or NONE. */
        int goal(int d) {
            if (isA(sort[d], PACK)) {
                countOthers(d);
                return sort[d] == SHY ? emptiestPlace() : fullestPlace();
            }
            int p = favourite(d);
            return p == NONE ? NONE : personAt[p];
        }

        /** The PERSON that a DOG GOES FOR, or NONE. */
        int favourite(int d) {
            if (!isA(sort[d], HOUND)) {
                return NONE;
            }
            int best = NONE;
            for (int p = 0; p < people; p++) {
                if (best == NONE || pull(p, d) > pull(best, d)) {
                    best = p;
                }
            }
            return sort[d] == PUP && best != NONE && pull(best, d) <= 0 ? NONE : best;
        }

        private int pull(int p, int d) {
            int scent = sort[d] == TERRIER ? 0 : smell[p];
            int up = personAt[p] - dogAt[d];
            return scent + 3 * bones[p] - (up < 0 ? -up : up);
        }

        /** By the DOGS that countOthers() found; NONE if there were none. */
        private int fullestPlace() {
            int best = NONE;
            int most = 0;
            for (int place = 0; place < places; place++) {
                if (others[place] > most) {
                    most = others[place];
                    best = place;
                }
            }
            return best;
        }

        private int emptiestPlace() {
            int best = 0;
            for (int place = 1; place < places; place++) {
                if (others[place] < others[best]) {
                    best = place;
                }
            }
            return best;
        }

        private void countOthers(int d) {
            for (int place = 0; place < places; place++) {
                others[place] = 0;
            }
            for (int o = 0; o < dogs; o++) {
                int place = dogAt[o];
                if (o != d && holds(dogsThere, o) && place >= 0 && place < places) {
                    others[place]++;
                }
            }
        }
    }

    /** The ACTS that can be undone: a ring of TOWNS as they were ahead of each. */
    private static final class Acts {
        private static final int MOST = 24;

        private final Town[] before = new Town[MOST];
        private int next;
        int kept;

        Acts() {
            for (int i = 0; i < MOST; i++) {
                before[i] = new Town();
            }
        }

        void keep(Town t) {
            before[next].become(t);
            next = (next + 1) % MOST;
            kept = Math.min(kept + 1, MOST);
        }

        int takeBack(Town t) {
            if (kept > 0) {
                next = (next + MOST - 1) % MOST;
                kept--;
                t.become(before[next]);
            }
            return kept;
        }

        void forget() {
            kept = 0;
        }
    }

    /** THE TAPE, and how a TOWN is read from it. */
    private static final class Reader {
        private static final int MOST_BYTES = 90;
        private static final int MISPLACED = 1, NOT_AS_TOLD = 2, NO_ROOM = 3;

        private final int[] tape = new int[MOST_BYTES];
        int bytes;
        private int at;
        final Town draft = new Town();
        int faultPlace, faultNumber;

        boolean isFull() {
            return bytes >= MOST_BYTES;
        }

        int append(int letter) {
            if (!isFull()) {
                tape[bytes] = letter;
                bytes++;
            }
            return bytes;
        }

        /** Reads the tape into the draft and empties it; false: a FAULT was met. */
        boolean reads() {
            at = 0;
            boolean sound = readsLaw() && readsPeople() && readsDogs();
            bytes = 0;
            return sound;
        }

        private boolean readsLaw() {
            if (!takes('t')) {
                return false;
            }
            int places = number(LEAST_PLACES, MOST_PLACES);
            if (places == NONE || !takes(',')) {
                return false;
            }
            int minutes = number(1, LONGEST);
            if (minutes == NONE || !takes(';')) {
                return false;
            }
            draft.begin(places, minutes);
            return true;
        }

        private boolean readsPeople() {
            if (!readsPerson()) {
                return false;
            }
            for (int i = 0; i < MOST_BYTES && coming() == 'm'; i++) {
                if (draft.people >= MOST_PEOPLE) {
                    return meets(NO_ROOM);
                }
                if (!readsPerson()) {
                    return false;
                }
            }
            return true;
        }

        private boolean readsPerson() {
            if (!takes('m')) {
                return false;
            }
            int home = number(0, draft.places - 1);
            if (home == NONE || !takes(',')) {
                return false;
            }
            int smell = number(0, MOST_SMELL);
            if (smell == NONE || !takes(',')) {
                return false;
            }
            int gait = number(STAYS, DOWN);
            if (gait == NONE || !takes(';')) {
                return false;
            }
            draft.settle(home, smell, gait);
            return true;
        }

        private boolean readsDogs() {
            for (int i = 0; i < MOST_BYTES && at < bytes; i++) {
                int sort = sortOf(coming());
                if (sort == NONE) {
                    return meets(MISPLACED);
                }
                if (draft.dogs >= MOST_DOGS) {
                    return meets(NO_ROOM);
                }
                at++;
                int home = number(0, draft.places - 1);
                if (home == NONE || !takes(';')) {
                    return false;
                }
                draft.kennel(sort, home);
            }
            return true;
        }

        private static int sortOf(int letter) {
            switch (letter) {
                case 'h': return HOUND;
                case 't': return TERRIER;
                case 'p': return PUP;
                case 'k': return PACK;
                case 's': return SHY;
                default: return NONE;
            }
        }

        /** The byte that comes, NONE at the end. */
        private int coming() {
            return at < bytes ? tape[at] : NONE;
        }

        private boolean takes(int sign) {
            if (coming() != sign) {
                return meets(MISPLACED);
            }
            at++;
            return true;
        }

        private int number(int least, int most) {
            int value = 0;
            int end = at;
            for (; end < bytes && isFigure(tape[end]) && end - at < 3; end++) {
                value = 10 * value + tape[end] - '0';
            }
            if (end == at || end - at > 2) {
                meets(MISPLACED);
                return NONE;
            }
            if (value < least || value > most) {
                meets(NOT_AS_TOLD);
                return NONE;
            }
            at = end;
            return value;
        }

        private static boolean isFigure(int letter) {
            return letter >= '0' && letter <= '9';
        }

        private boolean meets(int fault) {
            faultPlace = at;
            faultNumber = fault;
            return false;
        }
    }

    /** What is foretold: it happens to another TOWN that was as the one of now. */
    private static final class Seer {
        private static final int MULTIPLIER = 16807, MODULUS = 2147483647;

        private final Town now;
        private final Town then = new Town();

        int kingless;
        private final int[] crowns = new int[MOST_PEOPLE];

        Seer(Town now) {
            this.now = now;
        }

        int dogLater(int dog, int minutes) {
            passMinutes(minutes);
            return then.dogAt[dog];
        }

        int personLater(int person, int minutes) {
            passMinutes(minutes);
            return then.personAt[person];
        }

        private void passMinutes(int minutes) {
            then.become(now);
            for (int m = 0; m < minutes; m++) {
                then.pass();
            }
        }

        int kingOfBell(int n) {
            then.become(now);
            int king = NONE;
            for (int bell = 0; bell < n; bell++) {
                then.runToBell();
                king = then.ring();
            }
            return king;
        }

        int minutesToReign(int person) {
            then.become(now);
            for (int m = 1; m <= FORESEEN_MINUTES; m++) {
                if (then.pass() == person) {
                    return m;
                }
            }
            return NONE;
        }

        int fewestBones(int person) {
            for (int v = 0; v <= MOST_BONES; v++) {
                if (reignsWith(BONE, person, v)) {
                    return v;
                }
            }
            return NONE;
        }

        int gaitsOfAKing(int person) {
            int set = 0;
            for (int v = STAYS; v <= DOWN; v++) {
                if (reignsWith(GAIT, person, v)) {
                    set |= 1 << v;
                }
            }
            return set;
        }

        private boolean reignsWith(int trait, int person, int v) {
            then.become(now);
            then.take(trait, person, v);
            then.runToBell();
            return then.kingAtBell() == person;
        }

        /** The PLACES of the fewest cats, of several the least set; NONE. */
        int fewestCats(int place) {
            for (int n = 0; n < now.places; n++) {
                for (int set = 0; set <= setOfAll(now.places); set++) {
                    if (Integer.bitCount(set) == n && !holds(set, place) && keepsDogsOut(set, place)) {
                        return set;
                    }
                }
            }
            return NONE;
        }

        private boolean keepsDogsOut(int cats, int place) {
            then.become(now);
            then.cats = cats;
            then.runToBell();
            return then.dogsIn(place) == 0;
        }

        /** With so many turns left, the one's at each even number, as the one goes first. */
        private int outcome(int one, int other, int bonesOfOne, int bonesOfOther, int turns) {
            if (turns <= 0 || turns > 2 * MOST_SHOWN) {
                return margin(one, other, bonesOfOne, bonesOfOther);
            }
            int hidden = outcome(one, other, bonesOfOne, bonesOfOther, turns - 1);
            if (turns % 2 == 0) {
                int more = Math.min(bonesOfOne + 1, MOST_BONES);
                return Math.max(hidden, outcome(one, other, more, bonesOfOther, turns - 1));
            }
            int more = Math.min(bonesOfOther + 1, MOST_BONES);
            return Math.min(hidden, outcome(one, other, bonesOfOne, more, turns - 1));
        }

        private int margin(int one, int other, int bonesOfOne, int bonesOfOther) {
            then.become(now);
            then.bones[one] = bonesOfOne;
            then.bones[other] = bonesOfOther;
            then.runToBell();
            return Integer.bitCount(then.dogsIn(then.personAt[one]))
                    - Integer.bitCount(then.dogsIn(then.personAt[other]));
        }

        int packsThatCrown(int person) {
            int n = 0;
            for (int set = 0; set <= setOfAll(now.dogs); set++) {
                if (kingBy(set) == person) {
                    n++;
                }
            }
            return n;
        }

        int dogsThatDecide() {
            int all = setOfAll(now.dogs);
            int king = kingBy(all);
            int set = 0;
            for (int d = 0; d < now.dogs; d++) {
                if (kingBy(all & ~(1 << d)) != king) {
                    set |= 1 << d;
                }
            }
            return set;
        }

        private int kingBy(int dogsThere) {
            then.become(now);
            then.dogsThere = dogsThere;
            then.runToBell();
            return then.kingAtBell();
        }

        /** The values of a TRAIT of one, as bits, by which a DOG goes as n ITEMS from i on tell. */
        int guesses(int trait, int who, int dog, int[] told, int i, int n) {
            int set = 0;
            for (int v = leastOf(trait); v <= mostOf(trait); v++) {
                then.become(now);
                then.take(trait, who, v);
                if (goesAsTold(dog, told, i, n)) {
                    set |= 1 << v;
                }
            }
            return set;
        }

        private static int leastOf(int trait) {
            return trait == SORT ? HOUND : 0;
        }

        private int mostOf(int trait) {
            switch (trait) {
                case SORT: return SHY;
                case FROM: return now.places - 1;
                case SMELL: return MOST_SMELL;
                default: return DOWN;
            }
        }

        private boolean goesAsTold(int dog, int[] told, int from, int n) {
            for (int i = from; i < from + n; i++) {
                then.pass();
                if (i < 0 || i >= told.length || told[i] != then.dogAt[dog]) {
                    return false;
                }
            }
            return true;
        }

        /** Of 10 to the power of how many DOGS there are chances, those by which one is KING. */
        int chancesAsleep(int person, int c) {
            int chances = 0;
            for (int sleepers = 0; sleepers <= setOfAll(now.dogs); sleepers++) {
                int n = Integer.bitCount(sleepers);
                int weight = power(c, n) * power(CERTAIN - c, now.dogs - n);
                if (weight > 0 && kingWhileAsleep(sleepers) == person) {
                    chances += weight;
                }
            }
            return chances;
        }

        private int kingWhileAsleep(int sleepers) {
            then.become(now);
            then.dogsAsleep = sleepers;
            then.runToBell();
            return then.kingAtBell();
        }

        void drawYears(int n, int seed) {
            kingless = 0;
            for (int p = 0; p < MOST_PEOPLE; p++) {
                crowns[p] = 0;
            }
            then.become(now);
            long x = seed;
            for (int bell = 0; bell < n; bell++) {
                x = drawFriday(x);
                int king = then.ring();
                if (king >= 0 && king < crowns.length) {
                    crowns[king]++;
                } else {
                    kingless++;
                }
            }
        }

        /** Goes on to the next BELL by draws from x: the last that was drawn. */
        private long drawFriday(long x) {
            for (int left = then.fridayLasts - then.minute; left > 0 && then.people > 0; left--) {
                x = x * MULTIPLIER % MODULUS;
                then.bones[(int) (x % then.people)] = (int) (x % 10);
                then.stir();
            }
            return x;
        }

        int kingMostOften() {
            int best = NONE;
            int most = 0;
            for (int p = 0; p < then.people; p++) {
                if (crowns[p] > most) {
                    most = crowns[p];
                    best = p;
                }
            }
            return best;
        }
    }

    /** ASKS of DOGS, and THE TRACE of the BODIES that they begin. */
    private static final class Asks {
        private static final int MOST_TRACED = 16;
        // a terrier's 12, 11, 24, 21, 20 are the most that stand open at once
        private static final int DEEPEST = 5;

        // by KIND the BODY that begins: its own, else that of the nearest KIND that it is, too
        private static final int[] SIZE_BODY = {10, 11, 12, 11, 13, 14};
        private static final int[] MARK_BODY = {20, 21, 24, 22, 23, 23};

        private final Town now;
        private final int[] traced = new int[MOST_TRACED];
        private int tracedCount;

        Asks(Town now) {
            this.now = now;
        }

        int answer(int dog, int what) {
            tracedCount = 0;
            return gives(what == 0 ? sizeBody(dog) : markBody(dog), dog, 1);
        }

        int begun(int i) {
            return i >= 0 && i < tracedCount ? traced[i] : NONE;
        }

        private int sizeBody(int dog) {
            int sort = now.sort[dog];
            return sort >= 0 && sort < SIZE_BODY.length ? SIZE_BODY[sort] : SIZE_BODY[DOG];
        }

        private int markBody(int dog) {
            int sort = now.sort[dog];
            return sort >= 0 && sort < MARK_BODY.length ? MARK_BODY[sort] : MARK_BODY[DOG];
        }

        private int gives(int body, int dog, int depth) {
            if (depth > DEEPEST) {
                return BAD;
            }
            begins(body);
            int deeper = depth + 1;
            switch (body) {
                case 10: return now.dogHome[dog];
                case 11: return gives(10, dog, deeper) + gives(markBody(dog), dog, deeper);
                case 12: return -gives(11, dog, deeper);
                case 13: return gives(10, dog, deeper) - 100;
                case 14: return 2 * gives(13, dog, deeper);
                case 20: return dog;
                case 21: return gives(20, dog, deeper) + now.dogAt[dog];
                case 22: return gives(21, dog, deeper) - 1000;
                case 23: return gives(20, dog, deeper) - gives(sizeBody(dog), dog, deeper);
                case 24: return 2 * gives(21, dog, deeper);
                default: return BAD;
            }
        }

        private void begins(int body) {
            if (tracedCount < MOST_TRACED) {
                traced[tracedCount] = body;
                tracedCount++;
            }
        }
    }
}
