import java.util.ArrayDeque;
import java.util.ArrayList;
import java.util.Arrays;
import java.util.Comparator;
import java.util.Deque;
import java.util.List;
import java.util.TreeMap;
import java.util.function.Consumer;
import java.util.function.IntPredicate;
import java.util.regex.Matcher;
import java.util.regex.Pattern;
import java.util.stream.IntStream;

/**
 * The document read a second time, with the whole Java library, by other means than the class:
 * refusals are exceptions, DOGS are objects of classes, TOWNS are copied, texts are cut by patterns.
 * RandomRuns compares the two.
 */
final class Told {
    private static final int NONE = -1000000;

    /** What a call answers in place of a number: a refusal, a finding, a fault. */
    static final class Refusal extends RuntimeException {
        private static final long serialVersionUID = 1;
        final int answer;

        Refusal(int answer) {
            super(null, null, false, false);
            this.answer = answer;
        }
    }

    private static void need(boolean so, int answer) {
        if (!so) {
            throw new Refusal(answer);
        }
    }

    private static void told(boolean so) {
        need(so, -1000001);
    }

    private static void state(boolean so) {
        need(so, -1000002);
    }

    private void find(boolean so, int number) {
        if (!so) {
            status = number;
            throw new Refusal(-1000010 - number);
        }
    }

    // ---- a town

    static final class Person implements Cloneable {
        int home, smell, walk, place, bones, reigns;

        Person copy() {
            Person p = new Person();
            p.home = home;
            p.smell = smell;
            p.walk = walk;
            p.place = place;
            p.bones = bones;
            p.reigns = reigns;
            return p;
        }
    }

    static class Dog {
        int number, home, place, kind;
        boolean sleeps;

        int size(List<Integer> trace) {
            trace.add(10);
            return home;
        }

        int mark(List<Integer> trace) {
            trace.add(20);
            return number;
        }

        Dog of(int number, int home, int place, int kind) {
            this.number = number;
            this.home = home;
            this.place = place;
            this.kind = kind;
            return this;
        }
    }

    static class Hound extends Dog {
        @Override int size(List<Integer> trace) {
            trace.add(11);
            int s = super.size(trace);
            return s + mark(trace);
        }

        @Override int mark(List<Integer> trace) {
            trace.add(21);
            return super.mark(trace) + place;
        }
    }

    static final class Terrier extends Hound {
        @Override int size(List<Integer> trace) {
            trace.add(12);
            return 0 - super.size(trace);
        }

        @Override int mark(List<Integer> trace) {
            trace.add(24);
            return super.mark(trace) * 2;
        }
    }

    static final class Pup extends Hound {
        @Override int mark(List<Integer> trace) {
            trace.add(22);
            return super.mark(trace) - 1000;
        }
    }

    static class Pack extends Dog {
        @Override int size(List<Integer> trace) {
            trace.add(13);
            return super.size(trace) - 100;
        }

        @Override int mark(List<Integer> trace) {
            trace.add(23);
            int m = super.mark(trace);
            return m - size(trace);
        }
    }

    static final class Shy extends Pack {
        @Override int size(List<Integer> trace) {
            trace.add(14);
            return super.size(trace) * 2;
        }
    }

    private static final List<Class<? extends Dog>> KINDS =
            List.of(Dog.class, Hound.class, Terrier.class, Pup.class, Pack.class, Shy.class);

    private static Dog dogOf(int kind) {
        switch (kind) {
            case 1: return new Hound();
            case 2: return new Terrier();
            case 3: return new Pup();
            case 4: return new Pack();
            case 5: return new Shy();
            default: throw new IllegalStateException();
        }
    }

    static final class Street {
        int places, lasts, friday, minute;
        final List<Person> people = new ArrayList<>();
        final List<Dog> dogs = new ArrayList<>();

        Street copy() {
            Street s = new Street();
            s.places = places;
            s.lasts = lasts;
            s.friday = friday;
            s.minute = minute;
            people.forEach(p -> s.people.add(p.copy()));
            for (Dog d : dogs) {
                Dog e = dogOf(d.kind).of(d.number, d.home, d.place, d.kind);
                e.sleeps = d.sleeps;
                s.dogs.add(e);
            }
            return s;
        }

        int favourite(Dog dog) {
            if (dog.kind > 3) {
                return NONE;
            }
            int best = NONE;
            int most = Integer.MIN_VALUE;
            for (int i = 0; i < people.size(); i++) {
                Person p = people.get(i);
                int pull = 3 * p.bones - Math.abs(p.place - dog.place) + (dog.kind == 2 ? 0 : p.smell);
                if (pull > most) {
                    most = pull;
                    best = i;
                }
            }
            return dog.kind == 3 && most < 1 ? NONE : best;
        }

        int goal(Dog dog) {
            if (dog.kind < 4) {
                int p = favourite(dog);
                return p == NONE ? NONE : people.get(p).place;
            }
            List<Dog> others = dogs.stream().filter(d -> d != dog).toList();
            if (dog.kind == 4 && others.isEmpty()) {
                return NONE;
            }
            Comparator<Integer> byDogs =
                    Comparator.comparing(place -> others.stream().filter(d -> d.place == place).count());
            if (dog.kind == 4) {
                byDogs = byDogs.reversed();
            }
            return IntStream.range(0, places).boxed().min(byDogs.thenComparing(x -> x)).get();
        }

        /** Ahead of THE BELL's own doings. */
        void move(int cats) {
            for (Person p : people) {
                if (p.walk == 0) {
                    continue;
                }
                int next = p.walk == 1 ? p.place + 1 : p.place - 1;
                if (next < 0 || next >= places) {
                    p.walk = 3 - p.walk;
                    next = 2 * p.place - next;
                }
                p.place = next;
            }
            for (Dog d : dogs) {
                int goal = goal(d);
                if (!d.sleeps && goal != NONE) {
                    int next = d.place + Integer.compare(goal, d.place);
                    if (next != d.place && (cats >> next & 1) == 0) {
                        d.place = next;
                    }
                }
            }
            minute += 1;
        }

        long dogsAt(int person) {
            return dogs.stream().filter(d -> d.place == people.get(person).place).count();
        }

        int king() {
            int best = IntStream.range(0, people.size()).boxed()
                    .min(Comparator.comparing((Integer p) -> -dogsAt(p)).thenComparing(p -> p)).get();
            return dogsAt(best) == 0 ? NONE : best;
        }

        /** The KING of the BELL of this MINUTE; NONE, too, if it has no BELL. */
        int minute() {
            move(0);
            if (minute != lasts) {
                return NONE;
            }
            int king = king();
            if (king != NONE) {
                people.get(king).reigns = Math.min(999, people.get(king).reigns + 1);
            }
            people.forEach(p -> p.place = p.home);
            dogs.forEach(d -> d.place = d.home);
            minute = 0;
            friday += 1;
            return king;
        }

        /** This as it is at the next BELL, ahead of all going HOME. */
        Street atBell(int cats) {
            while (minute < lasts) {
                move(cats);
            }
            return this;
        }
    }

    // ---- state

    private static final class Row {
        int lane;
        int[] items;
    }

    private final Row[] rows = new Row[8];
    private int status;
    private String tape = "";
    private int fault;
    private Street town;
    private final Deque<Street> acts = new ArrayDeque<>();
    private final Street[] images = new Street[2];
    private List<Integer> trace = new ArrayList<>();

    // ---- rows

    int row(int row, int lane, int n) {
        told(row >= 0 && row < 8);
        told(lane >= 0 && lane < 3);
        told(n < 41);
        find(n >= 0, 4);
        rows[row] = new Row();
        rows[row].lane = lane;
        rows[row].items = new int[n];
        return fine(n);
    }

    private int fine(int answer) {
        status = 0;
        return answer;
    }

    private Row rowAt(int row) {
        find(rows[row] != null, 1);
        return rows[row];
    }

    int set(int row, int i, int v) {
        told(row >= 0 && row < 8);
        Row r = rowAt(row);
        find(i >= 0 && i < r.items.length, 2);
        int bits = 8 << r.lane;
        r.items[i] = v << 32 - bits >> 32 - bits;
        return fine(r.items[i]);
    }

    int copy(int a, int i, int b, int j, int n) {
        told(a >= 0 && a < 8 && b >= 0 && b < 8);
        Row from = rowAt(a);
        Row to = rowAt(b);
        find(from.lane == to.lane, 5);
        find(i >= 0 && j >= 0 && n >= 0, 2);
        find((long) i + n <= from.items.length && (long) j + n <= to.items.length, 2);
        int[] cut = Arrays.copyOfRange(from.items, i, i + n);
        for (int k = 0; k < n; k++) {
            to.items[j + k] = cut[k];
        }
        return fine(n);
    }

    int drop(int row) {
        told(row >= 0 && row < 8);
        int n = rowAt(row).items.length;
        rows[row] = null;
        return fine(n);
    }

    // ---- towns, acts

    int feed(int letter) {
        told(letter >= 0 && letter < 256);
        need(tape.length() < 90, -1000003);
        tape += (char) letter;
        return tape.length();
    }

    private static final Pattern TOKEN = Pattern.compile("[0-9]+|[^0-9]");

    /** Reads TOKENS one by one. */
    private static final class Tokens {
        final List<String> tokens = new ArrayList<>();
        final List<Integer> starts = new ArrayList<>();
        int next;
        int number;

        Tokens(String text) {
            Matcher m = TOKEN.matcher(text);
            while (m.find()) {
                tokens.add(m.group());
                starts.add(m.start());
            }
            tokens.add("end");
            starts.add(text.length());
        }

        void fault(boolean so, int number) {
            if (!so) {
                this.number = number;
                throw new Refusal(-1000100 - starts.get(next));
            }
        }

        String peek() {
            return tokens.get(next);
        }

        void sign(String s) {
            fault(peek().equals(s), 1);
            next++;
        }

        int number(int least, int most) {
            fault(peek().matches("[0-9]{1,2}"), 1);
            int v = Integer.parseInt(peek());
            fault(v >= least && v <= most, 2);
            next++;
            return v;
        }
    }

    private static Street read(Tokens t) {
        Street s = new Street();
        t.sign("t");
        s.places = t.number(3, 9);
        t.sign(",");
        s.lasts = t.number(1, 30);
        t.sign(";");
        do {
            t.fault(!t.peek().equals("m") || s.people.size() < 5, 3);
            t.sign("m");
            Person p = new Person();
            p.home = p.place = t.number(0, s.places - 1);
            t.sign(",");
            p.smell = t.number(0, 9);
            t.sign(",");
            p.walk = t.number(0, 2);
            t.sign(";");
            s.people.add(p);
        } while (t.peek().equals("m"));
        while (!t.peek().equals("end")) {
            t.fault(t.peek().matches("[htpks]"), 1);
            t.fault(s.dogs.size() < 6, 3);
            int kind = 1 + "htpks".indexOf(t.peek());
            t.next++;
            int home = t.number(0, s.places - 1);
            t.sign(";");
            s.dogs.add(dogOf(kind).of(s.dogs.size(), home, home, kind));
        }
        return s;
    }

    int town() {
        Tokens t = new Tokens(tape);
        tape = "";
        try {
            town = read(t);
        } catch (Refusal r) {
            fault = t.number;
            throw r;
        }
        acts.clear();
        return town.dogs.size();
    }

    int fault() {
        return fault;
    }

    private void act(Consumer<Street> what) {
        acts.push(town.copy());
        if (acts.size() > 24) {
            acts.removeLast();
        }
        what.accept(town);
    }

    private Dog dogAt(int dog) {
        told(town != null && dog >= 0 && dog < town.dogs.size());
        return town.dogs.get(dog);
    }

    private Person personAt(int person) {
        told(town != null && person >= 0 && person < town.people.size());
        return town.people.get(person);
    }

    private static void in(int v, int least, int most) {
        told(v >= least && v <= most);
    }

    int minutes(int n) {
        state(town != null);
        in(n, 1, 24);
        need(town.friday < 999, -1000003);
        for (int i = 0; i < n; i++) {
            act(Street::minute);
        }
        return town.friday;
    }

    int bones(int person, int v) {
        int had = personAt(person).bones;
        in(v, 0, 9);
        if (had != v) {
            act(t -> t.people.get(person).bones = v);
        }
        return had;
    }

    int walk(int person, int v) {
        int had = personAt(person).walk;
        in(v, 0, 2);
        if (had != v) {
            act(t -> t.people.get(person).walk = v);
        }
        return had;
    }

    int put(int dog, int place) {
        int was = dogAt(dog).place;
        in(place, 0, town.places - 1);
        state(was != place);
        act(t -> t.dogs.get(dog).place = place);
        return was;
    }

    int undo() {
        state(!acts.isEmpty());
        town = acts.pop();
        return acts.size();
    }

    int dog(int dog, int what) {
        Dog d = dogAt(dog);
        in(what, 0, 3);
        return new int[] {d.place, d.home, town.favourite(d), town.goal(d)}[what];
    }

    int person(int person, int what) {
        Person p = personAt(person);
        in(what, 0, 6);
        int dogs = bits(0, town.dogs.size() - 1, d -> town.dogs.get(d).place == p.place);
        return new int[] {p.place, p.home, p.smell, p.bones, p.walk, p.reigns, dogs}[what];
    }

    // ---- foretold

    private static int bits(int least, int most, IntPredicate so) {
        return IntStream.rangeClosed(least, most).filter(so).map(v -> 1 << v).sum();
    }

    private Street later(int minutes) {
        Street s = town.copy();
        for (int i = 0; i < minutes; i++) {
            s.minute();
        }
        return s;
    }

    int ahead(int dog, int d) {
        dogAt(dog);
        in(d, 0, 60);
        return later(d).dogs.get(dog).place;
    }

    int goes(int person, int d) {
        personAt(person);
        in(d, 0, 60);
        return later(d).people.get(person).place;
    }

    int crowned(int n) {
        state(town != null);
        in(n, 1, 9);
        Street s = town.copy();
        int king = NONE;
        for (int end = s.friday + n; s.friday < end;) {
            king = s.minute();
        }
        return king;
    }

    int heir(int person) {
        personAt(person);
        Street s = town.copy();
        return IntStream.rangeClosed(1, 60).filter(m -> s.minute() == person).findFirst().orElse(NONE);
    }

    /** Who would be KING of the next BELL if it were so now. */
    private int kingIf(Consumer<Street> so) {
        Street s = town.copy();
        so.accept(s);
        return s.atBell(0).king();
    }

    int least(int person) {
        personAt(person);
        return IntStream.rangeClosed(0, 9)
                .filter(v -> kingIf(s -> s.people.get(person).bones = v) == person).findFirst().orElse(NONE);
    }

    int walks(int person) {
        personAt(person);
        return bits(0, 2, v -> kingIf(s -> s.people.get(person).walk = v) == person);
    }

    int cats(int place, int what) {
        told(town != null && place >= 0 && place < town.places);
        in(what, 0, 1);
        return IntStream.range(0, 1 << town.places).filter(set -> (set >> place & 1) == 0)
                .boxed().sorted(Comparator.comparing((Integer set) -> Integer.bitCount(set)).thenComparing(set -> set))
                .filter(set -> town.copy().atBell(set).dogs.stream().noneMatch(d -> d.place == place))
                .findFirst().map(set -> what == 0 ? Integer.bitCount(set) : (int) set).orElse(NONE);
    }

    int shows(int one, int other, int n) {
        personAt(one);
        personAt(other);
        told(one != other);
        in(n, 0, 2);
        return turn(town.copy(), one, other, 0, 2 * n);
    }

    private static int turn(Street s, int one, int other, int turn, int turns) {
        if (turn == turns) {
            Street end = s.copy().atBell(0);
            return (int) (end.dogsAt(one) - end.dogsAt(other));
        }
        boolean ones = turn % 2 == 0;
        int without = turn(s, one, other, turn + 1, turns);
        Street more = s.copy();
        Person p = more.people.get(ones ? one : other);
        if (p.bones < 9) {
            p.bones++;
        }
        int with = turn(more, one, other, turn + 1, turns);
        return ones == without > with ? without : with;
    }

    private int kingWith(int set) {
        return kingIf(s -> s.dogs.removeIf(d -> (set >> d.number & 1) == 0));
    }

    int packs(int person) {
        personAt(person);
        return (int) IntStream.range(0, 1 << town.dogs.size()).filter(set -> kingWith(set) == person).count();
    }

    int hangs() {
        state(town != null);
        int king = kingWith(63);
        return bits(0, town.dogs.size() - 1, d -> kingWith(63 - (1 << d)) != king);
    }

    private IntPredicate follows(int dog, int row, int i, int n, java.util.function.ObjIntConsumer<Street> so) {
        Row r = rowAt(row);
        find(i >= 0 && (long) i + n <= r.items.length, 2);
        status = 0;
        return v -> {
            Street s = town.copy();
            so.accept(s, v);
            return IntStream.range(i, i + n).allMatch(k -> {
                s.minute();
                return s.dogs.get(dog).place == r.items[k];
            });
        };
    }

    int fits(int dog, int row, int i, int n, int what) {
        Dog d = dogAt(dog);
        in(row, 0, 7);
        in(n, 1, 12);
        in(what, 0, 1);
        if (what == 0) {
            return bits(1, 5, follows(dog, row, i, n,
                    (s, v) -> s.dogs.set(dog, dogOf(v).of(dog, d.home, d.place, v))));
        }
        return bits(0, town.places - 1, follows(dog, row, i, n, (s, v) -> s.dogs.get(dog).place = v));
    }

    int suits(int person, int dog, int row, int i, int n, int what) {
        personAt(person);
        dogAt(dog);
        in(row, 0, 7);
        in(n, 1, 12);
        in(what, 0, 1);
        if (what == 0) {
            return bits(0, 9, follows(dog, row, i, n, (s, v) -> s.people.get(person).smell = v));
        }
        return bits(0, 2, follows(dog, row, i, n, (s, v) -> s.people.get(person).walk = v));
    }

    int asleep(int person, int c, int what) {
        personAt(person);
        in(c, 0, 10);
        in(what, 0, 1);
        long above = sleepOn(town.copy(), 0, person, c);
        long below = (long) Math.pow(10, town.dogs.size());
        long common = java.math.BigInteger.valueOf(above).gcd(java.math.BigInteger.valueOf(below)).longValue();
        return (int) ((what == 0 ? above : below) / common);
    }

    /** DOG by DOG sleeps or not: chances of 10 by each. */
    private static long sleepOn(Street s, int dog, int person, int c) {
        if (dog == s.dogs.size()) {
            return s.copy().atBell(0).king() == person ? 1 : 0;
        }
        s.dogs.get(dog).sleeps = true;
        long chances = c * sleepOn(s, dog + 1, person, c);
        s.dogs.get(dog).sleeps = false;
        return chances + (10 - c) * sleepOn(s, dog + 1, person, c);
    }

    int drawn(int n, int seed, int what) {
        state(town != null);
        in(n, 0, 9);
        in(seed, 1, 999999);
        in(what, 0, 1);
        Street s = town.copy();
        long x = seed;
        int nobody = 0;
        TreeMap<Integer, Integer> kings = new TreeMap<>();
        for (int fridays = 0; fridays < n;) {
            x = x * 16807 % 2147483647L;
            s.people.get((int) (x % s.people.size())).bones = (int) (x % 10);
            int friday = s.friday;
            int king = s.minute();
            if (s.friday != friday) {
                fridays++;
                if (king == NONE) {
                    nobody++;
                } else {
                    kings.merge(king, 1, Integer::sum);
                }
            }
        }
        int best = NONE;
        for (int king : kings.keySet()) {
            if (best == NONE || kings.get(king) > kings.get(best)) {
                best = king;
            }
        }
        return what == 0 ? nobody : best;
    }

    int image(int k) {
        in(k, 0, 1);
        state(town != null);
        images[k] = town.copy();
        return 1;
    }

    int restore(int k) {
        in(k, 0, 1);
        state(images[k] != null);
        town = images[k].copy();
        acts.clear();
        return 1;
    }

    // ---- asked

    int kind(int dog) {
        return dogAt(dog).kind;
    }

    int as(int dog, int kind) {
        Dog d = dogAt(dog);
        in(kind, 0, 5);
        find(KINDS.get(kind).isInstance(d), 3);
        return fine(dog);
    }

    int ask(int dog, int what) {
        Dog d = dogAt(dog);
        in(what, 0, 1);
        trace = new ArrayList<>();
        return what == 0 ? d.size(trace) : d.mark(trace);
    }

    int trace(int i) {
        return i >= 0 && i < Math.min(16, trace.size()) ? trace.get(i) : NONE;
    }

    int count(int what) {
        in(what, 0, 9);
        Street s = town == null ? new Street() : town;
        int there = 0;
        for (Row r : rows) {
            there += r == null ? 0 : 1;
        }
        int reigns = s.people.stream().mapToInt(p -> p.reigns).sum();
        return new int[] {there, s.places, s.dogs.size(), s.people.size(), s.friday, s.minute, s.lasts,
                          acts.size(), tape.length(), reigns}[what];
    }

    int status() {
        return status;
    }
}
