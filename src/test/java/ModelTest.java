import java.util.ArrayList;
import java.util.Arrays;
import java.util.Collections;
import java.util.Comparator;
import java.util.List;
import java.util.Random;
import java.util.regex.Matcher;
import java.util.regex.Pattern;

/** Long runs of calls, always the same ones, on the class and on a slow model of the document beside it. */
public final class ModelTest {
    static final int BEYOND = -1000000001;
    static final int FULL = -1000000002;
    static final int KIND = -1000000003;
    static final int NONE = -1000000004;
    static final int STATE = -1000000005;
    static final int MISSING = -1000000006;
    static final int SIZE = -1000000007;

    private static final int RUNS = 3000;
    private static final int CALLS = 400;
    private static final int CALL_KINDS = 41;

    private static int wrong = 0;

    public static void main(String[] args) {
        int[] answered = new int[CALL_KINDS];
        for (int run = 0; run < RUNS && wrong < 20; run++) {
            oneRun(run, answered);
        }
        for (int i = 0; i < CALL_KINDS; i++) {
            if (answered[i] < RUNS / 4) {
                wrong++;
                System.out.println("call " + i + " was answered without a finding only " + answered[i] + " times");
            }
        }
        System.out.println(RUNS + " runs beside the model, " + wrong + " answers not as due");
        if (wrong != 0) {
            System.exit(1);
        }
    }

    private static void oneRun(int run, int[] answered) {
        Random random = new Random(run);
        Draw draw = new Draw(random, run % 3 == 0);
        SpoonWords x = new SpoonWords();
        Model m = new Model();
        List<String> text = new ArrayList<>();
        for (int i = 0; i < CALLS; i++) {
            int which = draw.call(i);
            long[] a = draw.arguments(which, m);
            long got = call(x, which, a);
            long want = m.call(which, a);
            if (got > -1000000000L && which < CALL_KINDS) {
                answered[which]++;
            }
            text.add(which + Arrays.toString(a) + " -> " + got);
            if (got != want) {
                wrong++;
                System.out.println("run " + run + " call " + i + ": " + which + Arrays.toString(a)
                    + " answered " + got + ", due is " + want + ", after " + text.subList(Math.max(0, i - 12), i));
                return;
            }
        }
    }

    private static long call(SpoonWords x, int which, long[] v) {
        int[] a = new int[v.length];
        for (int i = 0; i < a.length; i++) {
            a[i] = (int) v[i];
        }
        switch (which) {
            case 0: return x.person(a[0]);
            case 1: return x.thing(a[0], a[1], a[2]);
            case 2: return x.personOf(a[0], a[1]);
            case 3: return x.thingOf(a[0], a[1]);
            case 4: return x.chain(a[0], a[1]);
            case 5: return x.counts(a[0], a[1]);
            case 6: return x.as(a[0], a[1]);
            case 7: return x.rule(a[0], a[1]);
            case 8: return x.base(a[0], a[1]);
            case 9: return x.steal(a[0]);
            case 10: return x.promise(a[0], a[1], a[2], a[3], a[4]);
            case 11: return x.promiseOf(a[0], a[1]);
            case 12: return x.keep(a[0]);
            case 13: return x.breaks(a[0]);
            case 14: return x.days(a[0]);
            case 15: return x.can();
            case 16: return x.owed(a[0], a[1]);
            case 17: return x.ring(a[0], a[1]);
            case 18: return x.cancel(a[0]);
            case 19: return x.fewest(a[0], a[1], a[2]);
            case 20: return x.most(a[0], a[1]);
            case 21: return x.look(a[0], a[1]);
            case 22: return x.worst();
            case 23: return x.night(a[0]);
            case 24: return x.least(a[0], a[1], a[2]);
            case 25: return x.bare();
            case 26: return x.feed(a[0], a[1]);
            case 27: return x.wipe();
            case 28: return x.town();
            case 29: return x.sheet(a[0], a[1], a[2]);
            case 30: return x.write(a[0], a[1], v[2]);
            case 31: return x.copy(a[0], a[1], a[2], a[3], a[4]);
            case 32: return x.lays(a[0]);
            case 33: return x.keeps(a[0]);
            case 34: return x.read(a[0]);
            case 35: return x.image();
            case 36: return x.undo();
            case 37: return x.tear();
            case 38: return x.count(a[0]);
            case 39: return x.status(a[0]);
            default: return words(x, v);
        }
    }

    /** Not a call of the face: feeds a whole text and tells the town. */
    private static long words(SpoonWords x, long[] bytes) {
        x.wipe();
        for (long b : bytes) {
            x.feed((int) b, 1);
        }
        return x.town();
    }

    /** Draws calls and arguments that mostly may be. */
    static final class Draw {
        private static final String[] WORDS = {"person", "hoarder", "lender", "child", "trader", "keeper",
            "thing", "rot", "pass", "part", ";", " ", "  ", "0", "1", "5", "6", "99", "100", "101", "9999", "10000", "x", "\t"};
        private static final String[] ITEMS = {"person", "hoarder", "lender", "child", "trader", "keeper",
            "thing 0 40", "thing 1 60 rot 3", "thing 9 5", "pass 2", "part 80", "thing0 99rot99"};
        final Random random;
        /** Runs in which much is promised and little is kept or broken, so that rings come about. */
        final boolean calm;

        Draw(Random random, boolean calm) {
            this.random = random;
            this.calm = calm;
        }

        int call(int i) {
            int which = anyCall(i);
            boolean stirs = which == 9 || which == 12 || which == 13 || which == 14 || which == 18;
            return calm && stirs && random.nextInt(6) > 0 ? 17 : which;
        }

        private int anyCall(int i) {
            if (i < (calm ? 7 : 4)) {
                return 0;
            }
            if (i < 16) {
                return random.nextInt(3) == 0 ? 10 : 1;
            }
            // An early image, so that undo() leads back to where there is room still.
            if (i == 20) {
                return 35;
            }
            int more = random.nextInt(100);
            if (more < 20) {
                return 10;
            }
            if (more < 26) {
                return random.nextInt(4) > 0 ? 17 : 18;
            }
            if (more < 29) {
                return 12;
            }
            if (more < 32) {
                return 1;
            }
            if (more < 34) {
                return 30;
            }
            return random.nextInt(CALL_KINDS);
        }

        /** A number from 0 to below n, now and then one beside it. */
        int about(int n) {
            int r = random.nextInt(40);
            if (r == 0) {
                return -1;
            }
            if (r == 1) {
                return n;
            }
            if (r == 2 && random.nextInt(4) == 0) {
                return random.nextInt();
            }
            return n <= 0 ? 0 : random.nextInt(n);
        }

        int sum() {
            return random.nextInt(3) == 0 ? about(10000) : 1 + about(random.nextBoolean() ? 60 : 8);
        }

        int heldSet(Model m, int from) {
            if (random.nextInt(12) == 0) {
                return about(1 << m.now.things.size());
            }
            int set = 0;
            for (int i = 0; i < m.now.things.size(); i++) {
                Thing t = m.now.things.get(i);
                if (t.holder == from && t.chain.size() <= m.now.pass && random.nextInt(3) > 0) {
                    set |= 1 << i;
                }
            }
            return set;
        }

        long[] arguments(int which, Model m) {
            int people = m.now.people.size();
            int things = m.now.things.size();
            int promises = m.now.promises.size();
            switch (which) {
                case 0: return row(random.nextInt(3) == 0 ? 2 : about(6));
                case 1: return row(about(people), random.nextBoolean() ? about(10000) : about(120), about(random.nextBoolean() ? 6 : 100));
                case 2: return row(about(people), about(5));
                case 3: return row(about(things), about(6));
                case 4: return row(about(things), about(3));
                case 5: return row(about(things), about(people));
                case 6: return row(about(people), about(6));
                case 7: {
                    int what = about(2);
                    return row(what, about(what == 0 ? 6 : 101));
                }
                case 8: return row(about(things), random.nextBoolean() ? about(10000) : about(100));
                case 9: return row(random.nextInt(3) == 0 ? about(things) : -1);
                case 10: {
                    int from = about(people);
                    return row(from, about(people), sum(), about(100), heldSet(m, from));
                }
                case 11: return row(about(promises), about(7));
                case 12: case 13: return row(about(promises));
                case 14: return row(random.nextInt(5) == 0 ? about(51) : about(4));
                case 16: case 20: return row(about(people), about(people));
                case 17: return row(about(people), random.nextBoolean() ? about(11) - 1 : about(3));
                case 18: return row(about(people));
                case 19: return row(about(people), about(people), sum());
                case 21: return row(about(promises), about(2));
                case 23: return row(about(3));
                case 24: return row(about(1 << things), about(people), sum());
                case 26: return row(random.nextInt(), 1 + about(4));
                case 29: return row(about(4), new int[] {0, 8, 16, 64, 8, 16, 64, 32}[random.nextInt(8)], about(random.nextBoolean() ? 41 : 8));
                case 30: return row(about(4), about(8), random.nextInt(4) == 0 ? random.nextLong() : about(40));
                case 31: return row(about(4), about(6), about(4), about(6), about(6));
                case 32: case 33: case 34: return row(about(4));
                case 36: return row();
                case 38: return row(about(7));
                case 39: return row(about(8) - 1);
                case 40: return words();
                default: return row();
            }
        }

        long[] words() {
            StringBuilder text = new StringBuilder();
            boolean sound = random.nextInt(3) > 0;
            for (int i = random.nextInt(5); i >= 0; i--) {
                if (sound) {
                    text.append(text.length() == 0 ? "" : random.nextInt(9) == 0 ? " " : ";").append(ITEMS[random.nextInt(ITEMS.length)]);
                } else {
                    text.append(WORDS[random.nextInt(WORDS.length)]);
                }
            }
            long[] bytes = new long[Math.min(100, text.length())];
            for (int i = 0; i < bytes.length; i++) {
                bytes[i] = text.charAt(i);
            }
            return bytes;
        }

        static long[] row(long... v) {
            return v;
        }
    }

    static final class Thing {
        int owner;
        int holder;
        int base;
        int rot;
        boolean stolen;
        List<Integer> chain = new ArrayList<>();

        Thing twin() {
            Thing t = new Thing();
            t.owner = owner;
            t.holder = holder;
            t.base = base;
            t.rot = rot;
            t.stolen = stolen;
            t.chain = new ArrayList<>(chain);
            return t;
        }
    }

    static final class World {
        List<long[]> people = new ArrayList<>();
        List<Thing> things = new ArrayList<>();
        /** from, to, sum, due, state. */
        List<int[]> promises = new ArrayList<>();
        int pass = 1;
        int part = 66;
        int day = 0;

        World twin() {
            World w = new World();
            people.forEach(p -> w.people.add(p.clone()));
            things.forEach(t -> w.things.add(t.twin()));
            promises.forEach(p -> w.promises.add(p.clone()));
            w.pass = pass;
            w.part = part;
            w.day = day;
            return w;
        }

        int counts(Thing t, int person) {
            if (t.stolen) {
                return 0;
            }
            return counts((int) people.get(person)[0], t.base);
        }

        int counts(int kind, int base) {
            if (kind == 0) {
                return base * part / 100;
            }
            if (kind == 1) {
                return counts(0, base) / 2;
            }
            if (kind == 2) {
                return base;
            }
            if (kind == 3) {
                return base > 50 ? 0 : counts(0, base);
            }
            if (kind == 4) {
                return counts(2, base) + counts(2, base) / 10;
            }
            return base > 0 ? counts(1, base) + 5 : counts(1, base);
        }

        int countsAll(int set, int person) {
            int sum = 0;
            for (int i = 0; i < things.size(); i++) {
                if ((set & 1 << i) != 0) {
                    sum += counts(things.get(i), person);
                }
            }
            return sum;
        }

        int behind(int promise) {
            int set = 0;
            for (int i = 0; i < things.size(); i++) {
                if (things.get(i).chain.contains(promise)) {
                    set += 1 << i;
                }
            }
            return set;
        }

        int cover(int promise) {
            return countsAll(behind(promise), promises.get(promise)[1]);
        }

        boolean isBare(int promise) {
            return promises.get(promise)[4] == 0 && cover(promise) < promises.get(promise)[2];
        }

        boolean isLast(int promise) {
            return things.stream().filter(t -> t.chain.contains(promise))
                .allMatch(t -> t.chain.get(t.chain.size() - 1) == promise);
        }

        boolean canKeep(int promise) {
            return promises.get(promise)[4] == 0 && isLast(promise);
        }

        int keep(int promise) {
            int back = 0;
            for (Thing t : things) {
                if (t.chain.remove((Integer) promise)) {
                    t.holder = promises.get(promise)[0];
                    back++;
                }
            }
            promises.get(promise)[4] = 1;
            return back;
        }

        int breaks(int promise) {
            int others = 0;
            int to = promises.get(promise)[1];
            for (Thing t : things) {
                int place = t.chain.indexOf(promise);
                if (place >= 0) {
                    people.get(t.owner)[1] += t.base;
                    others += t.owner == to ? 0 : 1;
                    t.owner = to;
                    t.chain = new ArrayList<>(t.chain.subList(place + 1, t.chain.size()));
                    if (t.chain.isEmpty()) {
                        t.holder = to;
                    }
                }
            }
            promises.get(promise)[4] = 2;
            return others;
        }

        long harm() {
            return people.stream().mapToLong(p -> p[1]).sum();
        }

        int owed(int from, int to) {
            return promises.stream().filter(p -> p[0] == from && p[1] == to && p[4] == 0).mapToInt(p -> p[2]).sum();
        }

        boolean could(Thing t, int from) {
            return t.holder == from && !t.stolen && t.chain.size() <= pass;
        }

        /** Every way back is walked, and the best one kept. */
        List<Integer> ring(int person) {
            List<List<Integer>> rings = new ArrayList<>();
            List<Integer> way = new ArrayList<>(List.of(person));
            for (int length = 2; length <= people.size() && rings.isEmpty(); length++) {
                walk(way, length, rings);
            }
            Comparator<List<Integer>> byMembers = (a, b) -> Arrays.compare(
                a.stream().mapToInt(i -> i).toArray(), b.stream().mapToInt(i -> i).toArray());
            return rings.isEmpty() ? null : Collections.min(rings, byMembers);
        }

        private void walk(List<Integer> way, int length, List<List<Integer>> rings) {
            int last = way.get(way.size() - 1);
            if (way.size() == length) {
                if (owed(last, way.get(0)) > 0) {
                    rings.add(new ArrayList<>(way));
                }
                return;
            }
            for (int next = people.size() - 1; next >= 0; next--) {
                if (!way.contains(next) && owed(last, next) > 0) {
                    way.add(next);
                    walk(way, length, rings);
                    way.remove(way.size() - 1);
                }
            }
        }
    }

    static final class Model {
        private static final Pattern TOKEN = Pattern.compile(" *([a-z]+|[0-9]+|;|[^ ]|$)", Pattern.DOTALL);
        private static final List<String> KINDS = List.of("person", "hoarder", "lender", "child", "trader", "keeper");

        World now = new World();
        private World kept = null;
        private String tape = "";
        private final long[][] sheets = new long[4][];
        private final int[] bits = new int[4];
        private final int[] found = new int[7];

        long call(int which, long[] a) {
            Long finding = which == 40 ? null : finding(which, a);
            if (finding != null) {
                found[(int) (BEYOND - finding)]++;
                return finding;
            }
            return answer(which, a);
        }

        private boolean person(long p) {
            return p >= 0 && p < now.people.size();
        }

        private boolean thing(long t) {
            return t >= 0 && t < now.things.size();
        }

        private boolean promise(long p) {
            return p >= 0 && p < now.promises.size();
        }

        private boolean pair(long[] a) {
            return person(a[0]) && person(a[1]) && a[0] != a[1];
        }

        private boolean in(long v, long low, long high) {
            return low <= v && v <= high;
        }

        private boolean set(long s) {
            return s >= 0 && s < 1L << now.things.size();
        }

        private List<Thing> thingsOf(long set) {
            List<Thing> list = new ArrayList<>();
            for (int i = 0; i < now.things.size(); i++) {
                if ((set & 1L << i) != 0) {
                    list.add(now.things.get(i));
                }
            }
            return list;
        }

        private static Long first(Object... rows) {
            for (int i = 0; i < rows.length; i += 2) {
                if ((Boolean) rows[i]) {
                    return (long) (Integer) rows[i + 1];
                }
            }
            return null;
        }

        private Long finding(int which, long[] a) {
            switch (which) {
                case 0: return first(!in(a[0], 0, 5), BEYOND, now.people.size() == 10, FULL);
                case 1: return first(!person(a[0]) || !in(a[1], 0, 9999) || !in(a[2], 0, 99), BEYOND, now.things.size() == 16, FULL);
                case 2: return first(!person(a[0]) || !in(a[1], 0, 4), BEYOND);
                case 3: return first(!thing(a[0]) || !in(a[1], 0, 5), BEYOND);
                case 4:
                    if (!thing(a[0]) || !in(a[1], 0, 5)) {
                        return (long) BEYOND;
                    }
                    return first(a[1] >= now.things.get((int) a[0]).chain.size(), NONE);
                case 5: return first(!thing(a[0]) || !person(a[1]), BEYOND);
                case 6:
                    if (!person(a[0]) || !in(a[1], 0, 5)) {
                        return (long) BEYOND;
                    }
                    return first(!isOf((int) now.people.get((int) a[0])[0], (int) a[1]), KIND);
                case 7: return first(!in(a[0], 0, 1) || !in(a[1], 0, a[0] == 0 ? 5 : 100), BEYOND);
                case 8: return first(!thing(a[0]) || !in(a[1], 0, 9999), BEYOND);
                case 9:
                    return first(!thing(a[0]), BEYOND, thing(a[0]) && now.things.get((int) a[0]).stolen, STATE);
                case 10: return promiseFinding(a);
                case 11: return first(!promise(a[0]) || !in(a[1], 0, 6), BEYOND);
                case 12: return first(!promise(a[0]), BEYOND, !open(a[0]), STATE, promise(a[0]) && !now.isLast((int) a[0]), KIND);
                case 13: return first(!promise(a[0]), BEYOND, !open(a[0]), STATE);
                case 14: return first(!in(a[0], 1, 50), BEYOND, now.day + a[0] > 999, STATE);
                case 16: case 20: return first(!pair(a), BEYOND);
                case 17: {
                    if (!person(a[0]) || !in(a[1], -1, 9)) {
                        return (long) BEYOND;
                    }
                    List<Integer> ring = now.ring((int) a[0]);
                    return first(ring == null || a[1] >= ring.size(), NONE);
                }
                case 18: return first(!person(a[0]), BEYOND, person(a[0]) && now.ring((int) a[0]) == null, NONE);
                case 19: {
                    if (!pair(a) || !in(a[2], 1, 9999)) {
                        return (long) BEYOND;
                    }
                    int all = could((int) a[0]);
                    return first(Integer.bitCount(all) > 10, SIZE, now.countsAll(all, (int) a[1]) < a[2], NONE);
                }
                case 21: return first(!promise(a[0]) || !in(a[1], 0, 1), BEYOND, !open(a[0]), STATE);
                case 22: return first(now.promises.stream().noneMatch(p -> p[4] == 0), NONE);
                case 23: return first(!in(a[0], 0, 2), BEYOND);
                case 24:
                    if (!set(a[0]) || !person(a[1]) || !in(a[2], 1, 9999)) {
                        return (long) BEYOND;
                    }
                    return first(least(a) > 100, NONE);
                case 26: return first(!in(a[1], 1, 4), BEYOND, tape.length() + a[1] > 100, FULL);
                case 29: return first(!in(a[0], 0, 3) || !List.of(0L, 8L, 16L, 64L).contains(a[1]), BEYOND, a[2] < 0, SIZE, a[2] > 40, BEYOND);
                case 30: return first(!in(a[0], 0, 3), BEYOND, missing(a[0]), MISSING, !number(a[0], a[1]), BEYOND);
                case 31: return copyFinding(a);
                case 32: case 33: case 34: return first(!in(a[0], 0, 3), BEYOND, missing(a[0]), MISSING);
                case 36: return first(kept == null, NONE);
                case 38: return first(!in(a[0], 0, 6), BEYOND);
                case 39: return first(!in(a[0], -1, 6), BEYOND);
                default: return null;
            }
        }

        private static boolean isOf(int kind, int above) {
            return kind == above || above == 0 || (kind == 4 && above == 2) || (kind == 5 && above == 1);
        }

        private boolean open(long p) {
            return promise(p) && now.promises.get((int) p)[4] == 0;
        }

        private boolean missing(long s) {
            return in(s, 0, 3) && sheets[(int) s] == null;
        }

        private boolean number(long s, long i) {
            return in(s, 0, 3) && sheets[(int) s] != null && in(i, 0, sheets[(int) s].length - 1);
        }

        private int could(int from) {
            int set = 0;
            for (int i = 0; i < now.things.size(); i++) {
                set |= now.could(now.things.get(i), from) ? 1 << i : 0;
            }
            return set;
        }

        private Long promiseFinding(long[] a) {
            if (!pair(a) || !in(a[2], 1, 9999) || !in(a[3], 0, 99) || !set(a[4])) {
                return (long) BEYOND;
            }
            List<Thing> behind = thingsOf(a[4]);
            return first(behind.stream().anyMatch(t -> t.holder != a[0] || t.stolen), STATE,
                behind.stream().anyMatch(t -> t.chain.size() > now.pass || t.chain.size() == 6), KIND,
                now.countsAll((int) a[4], (int) a[1]) < a[2], SIZE, now.promises.size() == 24, FULL);
        }

        private Long copyFinding(long[] a) {
            if (!in(a[0], 0, 3) || !in(a[2], 0, 3)) {
                return (long) BEYOND;
            }
            if (missing(a[0]) || missing(a[2])) {
                return (long) MISSING;
            }
            return first(bits[(int) a[0]] != bits[(int) a[2]], KIND, a[1] < 0 || a[3] < 0 || a[4] < 0
                || a[1] + a[4] > sheets[(int) a[0]].length || a[3] + a[4] > sheets[(int) a[2]].length, BEYOND);
        }

        private int least(long[] a) {
            World w = now.twin();
            for (w.part = 0; w.part <= 100; w.part++) {
                if (w.countsAll((int) a[0], (int) a[1]) >= a[2]) {
                    break;
                }
            }
            return w.part;
        }

        private long answer(int which, long[] v) {
            int[] a = new int[v.length];
            for (int i = 0; i < a.length; i++) {
                a[i] = (int) v[i];
            }
            switch (which) {
                case 0: now.people.add(new long[] {a[0], 0}); return now.people.size() - 1;
                case 1: return newThing(now, a[0], a[1], a[2]);
                case 2: return personOf(a[0], a[1]);
                case 3: {
                    Thing t = now.things.get(a[0]);
                    return new int[] {t.owner, t.holder, t.base, t.rot, t.chain.size(), t.stolen ? 1 : 0}[a[1]];
                }
                case 4: return now.things.get(a[0]).chain.get(a[1]);
                case 5: return now.counts(now.things.get(a[0]), a[1]);
                case 6: return now.countsAll(-1, a[0]);
                case 7: return rule(a[0], a[1]);
                case 8: {
                    int was = now.things.get(a[0]).base;
                    now.things.get(a[0]).base = a[1];
                    return was;
                }
                case 9: {
                    Thing t = now.things.get(a[0]);
                    t.stolen = true;
                    now.people.get(t.holder)[1] += t.base;
                    return t.holder;
                }
                case 10:
                    for (Thing t : thingsOf(a[4])) {
                        t.holder = a[1];
                        t.chain.add(now.promises.size());
                    }
                    now.promises.add(new int[] {a[0], a[1], a[2], now.day + a[3], 0});
                    return now.promises.size() - 1;
                case 11: return a[1] < 5 ? now.promises.get(a[0])[a[1]] : a[1] == 5 ? now.cover(a[0]) : now.behind(a[0]);
                case 12: return now.keep(a[0]);
                case 13: return now.breaks(a[0]);
                case 14: return days(a[0]);
                case 15: return promisesThat(p -> now.canKeep(p));
                case 16: return now.owed(a[0], a[1]);
                case 17: return a[1] < 0 ? now.ring(a[0]).size() : now.ring(a[0]).get(a[1]);
                case 18: return cancel(a[0]);
                case 19: return fewest(could(a[0]), a[1], a[2]);
                case 20: return now.countsAll(could(a[0]), a[1]);
                case 21: return look(a[0], a[1]);
                case 22: return worst();
                case 23: return night(a[0]);
                case 24: return least(v);
                case 25: return promisesThat(p -> now.isBare(p));
                default: return laterAnswer(which, a, v);
            }
        }

        private interface Asks {
            boolean is(int promise);
        }

        private int promisesThat(Asks asks) {
            int set = 0;
            for (int p = 0; p < now.promises.size(); p++) {
                set |= asks.is(p) ? 1 << p : 0;
            }
            return set;
        }

        private static int newThing(World w, int owner, int base, int rot) {
            Thing t = new Thing();
            t.owner = owner;
            t.holder = owner;
            t.base = base;
            t.rot = rot;
            w.things.add(t);
            return w.things.size() - 1;
        }

        private long personOf(int person, int what) {
            if (what < 2) {
                return now.people.get(person)[what];
            }
            long owns = 0;
            long holds = 0;
            long base = 0;
            for (int i = 0; i < now.things.size(); i++) {
                Thing t = now.things.get(i);
                owns += t.owner == person ? 1L << i : 0;
                holds += t.holder == person ? 1L << i : 0;
                base += t.holder == person ? t.base : 0;
            }
            return what == 2 ? owns : what == 3 ? holds : base;
        }

        private int rule(int what, int v) {
            int was = what == 0 ? now.pass : now.part;
            if (what == 0) {
                now.pass = v;
            } else {
                now.part = v;
            }
            return was;
        }

        private int days(int n) {
            int broken = 0;
            for (int i = 0; i < n; i++) {
                now.day++;
                now.things.forEach(t -> t.base = t.base < t.rot ? 0 : t.base - t.rot);
                for (int p = 0; p < now.promises.size(); p++) {
                    if (open(p) && now.promises.get(p)[3] < now.day) {
                        now.breaks(p);
                        broken++;
                    }
                }
            }
            return broken;
        }

        private int cancel(int person) {
            List<Integer> ring = now.ring(person);
            ring.add(person);
            int least = Integer.MAX_VALUE;
            for (int i = 0; i + 1 < ring.size(); i++) {
                least = Math.min(least, now.owed(ring.get(i), ring.get(i + 1)));
            }
            for (int i = 0; i + 1 < ring.size(); i++) {
                // One by one, so that what comes to 0 is looked at in just that moment.
                for (int left = least; left > 0; left--) {
                    int p = firstOwing(ring.get(i), ring.get(i + 1));
                    now.promises.get(p)[2]--;
                    if (now.promises.get(p)[2] == 0 && now.canKeep(p)) {
                        now.keep(p);
                    }
                }
            }
            return least;
        }

        private int firstOwing(int from, int to) {
            for (int p = 0; p < now.promises.size(); p++) {
                int[] row = now.promises.get(p);
                if (row[0] == from && row[1] == to && row[4] == 0 && row[2] > 0) {
                    return p;
                }
            }
            return -1;
        }

        private int fewest(int all, int to, int sum) {
            for (int size = 1; size <= 10; size++) {
                for (int set = 1; set <= all; set++) {
                    if ((set & ~all) == 0 && Integer.bitCount(set) == size && now.countsAll(set, to) >= sum) {
                        return set;
                    }
                }
            }
            return -1;
        }

        private long look(int promise, int what) {
            World then = now.twin();
            then.breaks(promise);
            if (what == 0) {
                return then.harm() - now.harm();
            }
            int more = 0;
            for (int p = 0; p < now.promises.size(); p++) {
                more += then.isBare(p) && !now.isBare(p) ? 1 : 0;
            }
            return more;
        }

        private int worst() {
            int worst = -1;
            for (int p = now.promises.size() - 1; p >= 0; p--) {
                if (open(p) && (worst < 0 || look(p, 0) >= look(worst, 0))) {
                    worst = p;
                }
            }
            return worst;
        }

        private int night(int what) {
            World then = now.twin();
            int all = 0;
            int rounds = -1;
            int more;
            do {
                more = 0;
                for (int p = 0; p < then.promises.size(); p++) {
                    if (then.canKeep(p)) {
                        then.keep(p);
                        more++;
                    }
                }
                all += more;
                rounds++;
            } while (more > 0);
            int home = (int) then.things.stream().filter(t -> !t.stolen && t.holder == t.owner).count();
            return what == 0 ? all : what == 1 ? rounds : home;
        }

        private long laterAnswer(int which, int[] a, long[] v) {
            switch (which) {
                case 26:
                    for (int i = a[1] - 1; i >= 0; i--) {
                        tape += (char) (a[0] >> 8 * i & 255);
                    }
                    return tape.length();
                case 27: {
                    int had = tape.length();
                    tape = "";
                    return had;
                }
                case 28: return town();
                case 29:
                    bits[a[0]] = a[1];
                    sheets[a[0]] = a[1] == 0 ? null : new long[a[2]];
                    return a[1] == 0 ? 0 : a[2];
                case 30: {
                    long was = sheets[a[0]][a[1]];
                    int away = 64 - bits[a[0]];
                    sheets[a[0]][a[1]] = v[2] << away >> away;
                    return was;
                }
                case 31: {
                    long[] from = sheets[a[0]].clone();
                    for (int i = 0; i < a[4]; i++) {
                        sheets[a[2]][a[3] + i] = from[a[1] + i];
                    }
                    return a[4];
                }
                case 32: case 33: case 34: return ofSheet(which, sheets[a[0]]);
                case 35: kept = now.twin(); return 1;
                case 36: now = kept.twin(); return now.promises.size();
                case 37: {
                    int had = kept == null ? 0 : 1;
                    kept = null;
                    return had;
                }
                case 38: return count(a[0]);
                case 39: return a[0] < 0 ? Arrays.stream(found).sum() : found[a[0]];
                default:
                    tape = "";
                    for (int b : a) {
                        tape += (char) b;
                    }
                    return town();
            }
        }

        private int ofSheet(int which, long[] sheet) {
            int n = 0;
            for (int i = 0; i < sheet.length; i++) {
                if (which == 32 && thing(i) && in(sheet[i], 0, 9999)) {
                    now.things.get(i).base = (int) sheet[i];
                    n++;
                }
                if (which == 33 && promise(sheet[i]) && now.canKeep((int) sheet[i])) {
                    now.keep((int) sheet[i]);
                    n++;
                }
                if (which == 34 && (!thing(i) || now.things.get(i).holder != sheet[i])) {
                    return i + 1;
                }
            }
            return n;
        }

        private int count(int what) {
            switch (what) {
                case 0: return now.people.size();
                case 1: return now.things.size();
                case 2: return now.promises.size();
                case 3: return (int) now.promises.stream().filter(p -> p[4] == 0).count();
                case 4: return now.day;
                case 5: return tape.length();
                default: return now.things.stream().mapToInt(t -> t.base).sum();
            }
        }

        private List<String> tokens;
        private List<Integer> places;
        private int at;

        private int town() {
            tokens = new ArrayList<>();
            places = new ArrayList<>();
            Matcher m = TOKEN.matcher(tape);
            for (int from = 0; from <= tape.length() && m.find(from); from = m.end()) {
                tokens.add(m.group(1));
                places.add(m.group(1).isEmpty() ? tape.length() : m.start(1));
                if (m.group(1).isEmpty()) {
                    break;
                }
            }
            tape = "";
            at = 0;
            World then = now.twin();
            int items = 0;
            while (item(then)) {
                items++;
                if (tokens.get(at).isEmpty()) {
                    now = then;
                    return items;
                }
                if (!tokens.get(at).equals(";")) {
                    break;
                }
                at++;
            }
            return -1 - places.get(at);
        }

        /** The number at the token, or -1 if it is none from 0 to that. */
        private int upTo(int most) {
            String t = tokens.get(at).replaceFirst("^0+(?=.)", "");
            if (!t.matches("[0-9]{1,4}") || Integer.parseInt(t) > most) {
                return -1;
            }
            at++;
            return Integer.parseInt(t);
        }

        private boolean item(World w) {
            String t = tokens.get(at);
            boolean isKind = KINDS.contains(t);
            if (isKind ? w.people.size() == 10 : t.equals("thing") ? w.things.size() == 16 : !t.equals("pass") && !t.equals("part")) {
                return false;
            }
            at++;
            if (isKind) {
                w.people.add(new long[] {KINDS.indexOf(t), 0});
                return true;
            }
            if (t.equals("thing")) {
                int owner = upTo(w.people.size() - 1);
                int base = owner < 0 ? -1 : upTo(9999);
                int rot = 0;
                if (base >= 0 && tokens.get(at).equals("rot")) {
                    at++;
                    rot = upTo(99);
                }
                if (base < 0 || rot < 0) {
                    return false;
                }
                newThing(w, owner, base, rot);
                return true;
            }
            int v = upTo(t.equals("pass") ? 5 : 100);
            if (v >= 0 && t.equals("pass")) {
                w.pass = v;
            } else if (v >= 0) {
                w.part = v;
            }
            return v >= 0;
        }
    }
}
