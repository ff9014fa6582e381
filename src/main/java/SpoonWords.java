/** People who put things behind their promises; ../shared/DOC.md tells what each call answers. */
public final class SpoonWords {
    private static final int BEYOND = -1000000001;
    private static final int FULL = -1000000002;
    private static final int KIND = -1000000003;
    private static final int NONE = -1000000004;
    private static final int STATE = -1000000005;
    private static final int MISSING = -1000000006;
    private static final int SIZE = -1000000007;
    private static final int FINDINGS = 7;

    private static final int PERSON = 0;
    private static final int HOARDER = 1;
    private static final int LENDER = 2;
    private static final int CHILD = 3;
    private static final int TRADER = 4;
    private static final int KEEPER = 5;
    private static final int KINDS = 6;
    /** The kind that each kind stands under; -1: under none. */
    private static final int[] UNDER = {-1, PERSON, PERSON, PERSON, LENDER, HOARDER};

    private static final int OPEN = 0;
    private static final int KEPT = 1;
    private static final int BROKEN = 2;

    private static final int MOST_PEOPLE = 10;
    private static final int MOST_THINGS = 16;
    private static final int MOST_PROMISES = 24;
    private static final int MOST_CHAIN = 6;
    private static final int MOST_BASE = 9999;
    private static final int MOST_ROT = 99;
    private static final int MOST_SUM = 9999;
    private static final int MOST_DUE = 99;
    private static final int MOST_PASS = 5;
    private static final int MOST_PART = 100;
    private static final int MOST_DAYS = 50;
    private static final int LAST_DAY = 999;
    private static final int MOST_CHOICE = 10;
    private static final int MOST_BYTES = 100;
    private static final int MOST_NUMBER = 9999;
    private static final int SHEETS = 4;
    private static final int MOST_ROW = 40;

    private final Town now;
    private final Town kept;
    /** Where what would come is tried out, so that nothing that is there changes. */
    private final Town trial;
    private final Ring way;
    private final Tape tape;
    private final Sheet[] sheets;
    private final int[] found;
    private boolean hasKept;

    public SpoonWords() {
        now = new Town();
        kept = new Town();
        trial = new Town();
        way = new Ring();
        tape = new Tape();
        sheets = new Sheet[SHEETS];
        for (int s = 0; s < SHEETS; s++) {
            sheets[s] = new Sheet();
        }
        found = new int[FINDINGS];
        hasKept = false;
    }

    // ---- people, things

    public int person(int kind) {
        if (!isKind(kind)) {
            return tell(BEYOND);
        }
        if (now.people.isFull()) {
            return tell(FULL);
        }
        return now.people.enter(kind);
    }

    public int thing(int owner, int base, int rot) {
        if (!now.people.has(owner) || !isUpTo(base, MOST_BASE) || !isUpTo(rot, MOST_ROT)) {
            return tell(BEYOND);
        }
        if (now.things.isFull()) {
            return tell(FULL);
        }
        return now.things.enter(owner, base, rot);
    }

    public long personOf(int person, int what) {
        if (!now.people.has(person) || !isUpTo(what, 4)) {
            return tell(BEYOND);
        }
        switch (what) {
            case 0: return now.people.kinds[person];
            case 1: return now.people.harms[person];
            case 2: return now.things.ownedBy(person);
            case 3: return now.things.heldBy(person);
            default: return now.things.basesOf(now.things.heldBy(person));
        }
    }

    public int thingOf(int thing, int what) {
        if (!now.things.has(thing) || !isUpTo(what, 5)) {
            return tell(BEYOND);
        }
        switch (what) {
            case 0: return now.things.owners[thing];
            case 1: return now.things.holders[thing];
            case 2: return now.things.bases[thing];
            case 3: return now.things.rots[thing];
            case 4: return now.things.lengths[thing];
            default: return now.things.stolen[thing] ? 1 : 0;
        }
    }

    public int chain(int thing, int i) {
        if (!now.things.has(thing) || !isUpTo(i, MOST_CHAIN - 1)) {
            return tell(BEYOND);
        }
        if (i >= now.things.lengths[thing]) {
            return tell(NONE);
        }
        return now.things.chains[thing * MOST_CHAIN + i];
    }

    public int counts(int thing, int person) {
        if (!now.things.has(thing) || !now.people.has(person)) {
            return tell(BEYOND);
        }
        return now.worth(thing, person, now.part);
    }

    public int as(int person, int kind) {
        if (!now.people.has(person) || !isKind(kind)) {
            return tell(BEYOND);
        }
        if (!isUnder(now.people.kinds[person], kind)) {
            return tell(KIND);
        }
        return now.worthOfAll(now.things.all(), person, now.part);
    }

    public int rule(int what, int v) {
        if (!isUpTo(what, 1) || !isUpTo(v, what == 0 ? MOST_PASS : MOST_PART)) {
            return tell(BEYOND);
        }
        int was;
        if (what == 0) {
            was = now.pass;
            now.pass = v;
        } else {
            was = now.part;
            now.part = v;
        }
        return was;
    }

    public int base(int thing, int v) {
        if (!now.things.has(thing) || !isUpTo(v, MOST_BASE)) {
            return tell(BEYOND);
        }
        int was = now.things.bases[thing];
        now.things.bases[thing] = v;
        return was;
    }

    public int steal(int thing) {
        if (!now.things.has(thing)) {
            return tell(BEYOND);
        }
        if (now.things.stolen[thing]) {
            return tell(STATE);
        }
        int holder = now.things.holders[thing];
        now.people.harms[holder] += now.things.bases[thing];
        now.things.stolen[thing] = true;
        return holder;
    }

    // ---- promises

    public int promise(int from, int to, int sum, int due, int set) {
        if (!isPair(from, to) || !isSum(sum) || !isUpTo(due, MOST_DUE) || !now.things.hasAll(set)) {
            return tell(BEYOND);
        }
        if (!now.holdsAll(from, set)) {
            return tell(STATE);
        }
        if (!now.mayPassAll(set)) {
            return tell(KIND);
        }
        if (now.worthOfAll(set, to, now.part) < sum) {
            return tell(SIZE);
        }
        if (now.promises.isFull()) {
            return tell(FULL);
        }
        int promise = now.promises.enter(from, to, sum, now.day + due);
        now.putBehind(promise, set);
        return promise;
    }

    public int promiseOf(int promise, int what) {
        if (!now.promises.has(promise) || !isUpTo(what, 6)) {
            return tell(BEYOND);
        }
        switch (what) {
            case 0: return now.promises.froms[promise];
            case 1: return now.promises.tos[promise];
            case 2: return now.promises.sums[promise];
            case 3: return now.promises.dues[promise];
            case 4: return now.promises.states[promise];
            case 5: return now.coverOf(promise);
            default: return now.things.behind(promise);
        }
    }

    public int keep(int promise) {
        if (!now.promises.has(promise)) {
            return tell(BEYOND);
        }
        if (!now.promises.isOpen(promise)) {
            return tell(STATE);
        }
        if (!now.things.endWith(promise)) {
            return tell(KIND);
        }
        return now.settle(promise);
    }

    public int breaks(int promise) {
        if (!now.promises.has(promise)) {
            return tell(BEYOND);
        }
        if (!now.promises.isOpen(promise)) {
            return tell(STATE);
        }
        return now.fail(promise);
    }

    public int days(int n) {
        if (n < 1 || n > MOST_DAYS) {
            return tell(BEYOND);
        }
        if (now.day + n > LAST_DAY) {
            return tell(STATE);
        }
        int broken = 0;
        for (int i = 0; i < n; i++) {
            broken += now.passDay();
        }
        return broken;
    }

    public int can() {
        return now.keepable();
    }

    // ---- what follows

    public int owed(int from, int to) {
        if (!isPair(from, to)) {
            return tell(BEYOND);
        }
        return now.promises.sumBetween(from, to);
    }

    public int ring(int person, int what) {
        if (!now.people.has(person) || what < -1 || what >= MOST_PEOPLE) {
            return tell(BEYOND);
        }
        way.find(now, person);
        if (way.length == 0 || what >= way.length) {
            return tell(NONE);
        }
        return what < 0 ? way.length : way.members[what];
    }

    public int cancel(int person) {
        if (!now.people.has(person)) {
            return tell(BEYOND);
        }
        way.find(now, person);
        if (way.length == 0) {
            return tell(NONE);
        }
        int least = way.leastOwed(now);
        for (int i = 0; i < way.length; i++) {
            now.takeOff(way.members[i], way.next(i), least);
        }
        return least;
    }

    public int fewest(int from, int to, int sum) {
        if (!isPair(from, to) || !isSum(sum)) {
            return tell(BEYOND);
        }
        int choice = now.couldPut(from);
        if (Integer.bitCount(choice) > MOST_CHOICE) {
            return tell(SIZE);
        }
        if (now.worthOfAll(choice, to, now.part) < sum) {
            return tell(NONE);
        }
        return now.fewestOf(choice, to, sum);
    }

    public int most(int from, int to) {
        if (!isPair(from, to)) {
            return tell(BEYOND);
        }
        return now.worthOfAll(now.couldPut(from), to, now.part);
    }

    public long look(int promise, int what) {
        if (!now.promises.has(promise) || !isUpTo(what, 1)) {
            return tell(BEYOND);
        }
        if (!now.promises.isOpen(promise)) {
            return tell(STATE);
        }
        if (what == 0) {
            return now.harmOf(promise);
        }
        trial.become(now);
        trial.fail(promise);
        return Integer.bitCount(trial.uncovered() & ~now.uncovered());
    }

    public int worst() {
        int worst = now.mostHarmful();
        return worst < 0 ? tell(NONE) : worst;
    }

    public int night(int what) {
        if (!isUpTo(what, 2)) {
            return tell(BEYOND);
        }
        trial.become(now);
        int settled = 0;
        int rounds = 0;
        for (int i = 0; i < MOST_PROMISES; i++) {
            int more = trial.settleRound();
            if (more == 0) {
                break;
            }
            settled += more;
            rounds++;
        }
        switch (what) {
            case 0: return settled;
            case 1: return rounds;
            default: return trial.things.atHome();
        }
    }

    public int least(int set, int person, int sum) {
        if (!now.things.hasAll(set) || !now.people.has(person) || !isSum(sum)) {
            return tell(BEYOND);
        }
        for (int part = 0; part <= MOST_PART; part++) {
            if (now.worthOfAll(set, person, part) >= sum) {
                return part;
            }
        }
        return tell(NONE);
    }

    public int bare() {
        return now.uncovered();
    }

    // ---- the text

    public int feed(int bytes, int n) {
        if (n < 1 || n > 4) {
            return tell(BEYOND);
        }
        if (!tape.hasRoom(n)) {
            return tell(FULL);
        }
        return tape.append(bytes, n);
    }

    public int wipe() {
        return tape.clear();
    }

    public int town() {
        trial.become(now);
        int answer = tape.tellTown(trial);
        tape.clear();
        if (answer >= 0) {
            now.become(trial);
        }
        return answer;
    }

    // ---- sheets

    public int sheet(int s, int bits, int n) {
        Sheet sheet = sheetAt(s);
        if (sheet == null || (bits != 0 && bits != 8 && bits != 16 && bits != 64)) {
            return tell(BEYOND);
        }
        if (n < 0) {
            return tell(SIZE);
        }
        if (n > MOST_ROW) {
            return tell(BEYOND);
        }
        return sheet.lay(bits, n);
    }

    public long write(int s, int i, long v) {
        Sheet sheet = sheetAt(s);
        if (sheet == null) {
            return tell(BEYOND);
        }
        if (sheet.isMissing()) {
            return tell(MISSING);
        }
        if (i < 0 || i >= sheet.size) {
            return tell(BEYOND);
        }
        return sheet.put(i, v);
    }

    public int copy(int s, int from, int t, int to, int n) {
        Sheet source = sheetAt(s);
        Sheet target = sheetAt(t);
        if (source == null || target == null) {
            return tell(BEYOND);
        }
        if (source.isMissing() || target.isMissing()) {
            return tell(MISSING);
        }
        if (source.bits != target.bits) {
            return tell(KIND);
        }
        if (!source.hasRange(from, n) || !target.hasRange(to, n)) {
            return tell(BEYOND);
        }
        System.arraycopy(source.row, from, target.row, to, n);
        return n;
    }

    public int lays(int s) {
        Sheet sheet = sheetAt(s);
        if (sheet == null) {
            return tell(BEYOND);
        }
        if (sheet.isMissing()) {
            return tell(MISSING);
        }
        int came = 0;
        for (int i = 0; i < sheet.size && i < now.things.size; i++) {
            long v = sheet.row[i];
            if (v >= 0 && v <= MOST_BASE) {
                now.things.bases[i] = (int) v;
                came++;
            }
        }
        return came;
    }

    public int keeps(int s) {
        Sheet sheet = sheetAt(s);
        if (sheet == null) {
            return tell(BEYOND);
        }
        if (sheet.isMissing()) {
            return tell(MISSING);
        }
        int settled = 0;
        for (int i = 0; i < sheet.size; i++) {
            long v = sheet.row[i];
            if (v >= 0 && v < now.promises.size && now.canSettle((int) v)) {
                now.settle((int) v);
                settled++;
            }
        }
        return settled;
    }

    public int read(int s) {
        Sheet sheet = sheetAt(s);
        if (sheet == null) {
            return tell(BEYOND);
        }
        if (sheet.isMissing()) {
            return tell(MISSING);
        }
        for (int i = 0; i < sheet.size; i++) {
            if (i >= now.things.size || sheet.row[i] != now.things.holders[i]) {
                return 1 + i;
            }
        }
        return 0;
    }

    // ---- images

    public int image() {
        kept.become(now);
        hasKept = true;
        return 1;
    }

    public int undo() {
        if (!hasKept) {
            return tell(NONE);
        }
        now.become(kept);
        return now.promises.size;
    }

    public int tear() {
        int had = hasKept ? 1 : 0;
        hasKept = false;
        return had;
    }

    public int count(int what) {
        switch (what) {
            case 0: return now.people.size;
            case 1: return now.things.size;
            case 2: return now.promises.size;
            case 3: return now.promises.openOnes();
            case 4: return now.day;
            case 5: return tape.length;
            case 6: return now.things.basesOf(now.things.all());
            default: return tell(BEYOND);
        }
    }

    public int status(int which) {
        if (which < -1 || which >= FINDINGS) {
            return tell(BEYOND);
        }
        if (which >= 0) {
            return found[which];
        }
        int all = 0;
        for (int i = 0; i < FINDINGS; i++) {
            all += found[i];
        }
        return all;
    }

    // ---- what the calls share

    /** Every finding goes out through here, so that status() counts it. */
    private int tell(int finding) {
        int which = BEYOND - finding;
        if (which >= 0 && which < FINDINGS) {
            found[which]++;
        }
        return finding;
    }

    private boolean isPair(int from, int to) {
        return now.people.has(from) && now.people.has(to) && from != to;
    }

    private Sheet sheetAt(int s) {
        return s >= 0 && s < SHEETS ? sheets[s] : null;
    }

    private static boolean isUpTo(int v, int most) {
        return v >= 0 && v <= most;
    }

    private static boolean isSum(int sum) {
        return sum >= 1 && sum <= MOST_SUM;
    }

    private static boolean isKind(int kind) {
        return kind >= 0 && kind < KINDS;
    }

    private static boolean isUnder(int kind, int above) {
        int k = kind;
        for (int i = 0; i < KINDS && isKind(k); i++) {
            if (k == above) {
                return true;
            }
            k = UNDER[k];
        }
        return false;
    }

    private static boolean isInSet(int set, int i) {
        return ((set >> i) & 1) != 0;
    }

    /** What a thing that isn't stolen counts for one of a kind. */
    private static int worthFor(int kind, int base, int part) {
        int plain = base * part / 100;
        switch (kind) {
            case HOARDER: return plain / 2;
            case LENDER: return base;
            case CHILD: return base > 50 ? 0 : plain;
            case TRADER: return base + base / 10;
            case KEEPER: return plain / 2 + (base > 0 ? 5 : 0);
            default: return plain;
        }
    }

    private static String nameOf(int kind) {
        switch (kind) {
            case HOARDER: return "hoarder";
            case LENDER: return "lender";
            case CHILD: return "child";
            case TRADER: return "trader";
            case KEEPER: return "keeper";
            default: return "person";
        }
    }

    private static final class People {
        final int[] kinds = new int[MOST_PEOPLE];
        final long[] harms = new long[MOST_PEOPLE];
        int size;

        boolean has(int person) {
            return person >= 0 && person < size;
        }

        boolean isFull() {
            return size >= MOST_PEOPLE;
        }

        int enter(int kind) {
            kinds[size] = kind;
            harms[size] = 0;
            size++;
            return size - 1;
        }

        void become(People other) {
            System.arraycopy(other.kinds, 0, kinds, 0, MOST_PEOPLE);
            System.arraycopy(other.harms, 0, harms, 0, MOST_PEOPLE);
            size = other.size;
        }
    }

    private static final class Things {
        final int[] owners = new int[MOST_THINGS];
        final int[] holders = new int[MOST_THINGS];
        final int[] bases = new int[MOST_THINGS];
        final int[] rots = new int[MOST_THINGS];
        final boolean[] stolen = new boolean[MOST_THINGS];
        final int[] lengths = new int[MOST_THINGS];
        /** The chains one behind the other, MOST_CHAIN places for each thing. */
        final int[] chains = new int[MOST_THINGS * MOST_CHAIN];
        int size;

        boolean has(int thing) {
            return thing >= 0 && thing < size;
        }

        boolean hasAll(int set) {
            return (set >>> size) == 0;
        }

        int all() {
            return (1 << size) - 1;
        }

        boolean isFull() {
            return size >= MOST_THINGS;
        }

        int enter(int owner, int base, int rot) {
            owners[size] = owner;
            holders[size] = owner;
            bases[size] = base;
            rots[size] = rot;
            stolen[size] = false;
            lengths[size] = 0;
            size++;
            return size - 1;
        }

        int ownedBy(int person) {
            int set = 0;
            for (int i = 0; i < size; i++) {
                if (owners[i] == person) {
                    set |= 1 << i;
                }
            }
            return set;
        }

        int heldBy(int person) {
            int set = 0;
            for (int i = 0; i < size; i++) {
                if (holders[i] == person) {
                    set |= 1 << i;
                }
            }
            return set;
        }

        int basesOf(int set) {
            int sum = 0;
            for (int i = 0; i < size; i++) {
                if (isInSet(set, i)) {
                    sum += bases[i];
                }
            }
            return sum;
        }

        int atHome() {
            int home = 0;
            for (int i = 0; i < size; i++) {
                if (!stolen[i] && holders[i] == owners[i]) {
                    home++;
                }
            }
            return home;
        }

        void rot() {
            for (int i = 0; i < size; i++) {
                bases[i] = Math.max(0, bases[i] - rots[i]);
            }
        }

        /** The place of a promise in a thing's chain; -1: it isn't there. */
        int placeOf(int thing, int promise) {
            for (int i = 0; i < lengths[thing]; i++) {
                if (chains[thing * MOST_CHAIN + i] == promise) {
                    return i;
                }
            }
            return -1;
        }

        /** The things in whose chain a promise is. */
        int behind(int promise) {
            int set = 0;
            for (int i = 0; i < size; i++) {
                if (placeOf(i, promise) >= 0) {
                    set |= 1 << i;
                }
            }
            return set;
        }

        /** Whether each chain that has a promise ends with it. */
        boolean endWith(int promise) {
            for (int i = 0; i < size; i++) {
                int place = placeOf(i, promise);
                if (place >= 0 && place != lengths[i] - 1) {
                    return false;
                }
            }
            return true;
        }

        void append(int thing, int promise) {
            if (lengths[thing] < MOST_CHAIN) {
                chains[thing * MOST_CHAIN + lengths[thing]] = promise;
                lengths[thing]++;
            }
        }

        /** Takes the first ones off a chain; the others move up. */
        void dropFirst(int thing, int n) {
            int first = thing * MOST_CHAIN;
            int left = lengths[thing] - n;
            for (int i = 0; i < left; i++) {
                chains[first + i] = chains[first + n + i];
            }
            lengths[thing] = left;
        }

        void become(Things other) {
            System.arraycopy(other.owners, 0, owners, 0, MOST_THINGS);
            System.arraycopy(other.holders, 0, holders, 0, MOST_THINGS);
            System.arraycopy(other.bases, 0, bases, 0, MOST_THINGS);
            System.arraycopy(other.rots, 0, rots, 0, MOST_THINGS);
            System.arraycopy(other.stolen, 0, stolen, 0, MOST_THINGS);
            System.arraycopy(other.lengths, 0, lengths, 0, MOST_THINGS);
            System.arraycopy(other.chains, 0, chains, 0, MOST_THINGS * MOST_CHAIN);
            size = other.size;
        }
    }

    private static final class Promises {
        final int[] froms = new int[MOST_PROMISES];
        final int[] tos = new int[MOST_PROMISES];
        final int[] sums = new int[MOST_PROMISES];
        final int[] dues = new int[MOST_PROMISES];
        final int[] states = new int[MOST_PROMISES];
        int size;

        boolean has(int promise) {
            return promise >= 0 && promise < size;
        }

        boolean isFull() {
            return size >= MOST_PROMISES;
        }

        boolean isOpen(int promise) {
            return states[promise] == OPEN;
        }

        boolean isOpenBetween(int promise, int from, int to) {
            return isOpen(promise) && froms[promise] == from && tos[promise] == to;
        }

        int enter(int from, int to, int sum, int due) {
            froms[size] = from;
            tos[size] = to;
            sums[size] = sum;
            dues[size] = due;
            states[size] = OPEN;
            size++;
            return size - 1;
        }

        int openOnes() {
            int open = 0;
            for (int i = 0; i < size; i++) {
                if (isOpen(i)) {
                    open++;
                }
            }
            return open;
        }

        int sumBetween(int from, int to) {
            int sum = 0;
            for (int i = 0; i < size; i++) {
                if (isOpenBetween(i, from, to)) {
                    sum += sums[i];
                }
            }
            return sum;
        }

        void become(Promises other) {
            System.arraycopy(other.froms, 0, froms, 0, MOST_PROMISES);
            System.arraycopy(other.tos, 0, tos, 0, MOST_PROMISES);
            System.arraycopy(other.sums, 0, sums, 0, MOST_PROMISES);
            System.arraycopy(other.dues, 0, dues, 0, MOST_PROMISES);
            System.arraycopy(other.states, 0, states, 0, MOST_PROMISES);
            size = other.size;
        }
    }

    /** All that section 1 of the document tells. */
    private static final class Town {
        final People people = new People();
        final Things things = new Things();
        final Promises promises = new Promises();
        int pass = 1;
        int part = 66;
        int day = 0;

        void become(Town other) {
            people.become(other.people);
            things.become(other.things);
            promises.become(other.promises);
            pass = other.pass;
            part = other.part;
            day = other.day;
        }

        int worth(int thing, int person, int atPart) {
            if (things.stolen[thing]) {
                return 0;
            }
            return worthFor(people.kinds[person], things.bases[thing], atPart);
        }

        int worthOfAll(int set, int person, int atPart) {
            int sum = 0;
            for (int i = 0; i < things.size; i++) {
                if (isInSet(set, i)) {
                    sum += worth(i, person, atPart);
                }
            }
            return sum;
        }

        int coverOf(int promise) {
            return worthOfAll(things.behind(promise), promises.tos[promise], part);
        }

        /** The open promises with less cover than sum. */
        int uncovered() {
            int set = 0;
            for (int i = 0; i < promises.size; i++) {
                if (promises.isOpen(i) && coverOf(i) < promises.sums[i]) {
                    set |= 1 << i;
                }
            }
            return set;
        }

        boolean isSoundWith(int thing, int person) {
            return things.holders[thing] == person && !things.stolen[thing];
        }

        boolean mayPass(int thing) {
            return things.lengths[thing] <= pass && things.lengths[thing] < MOST_CHAIN;
        }

        boolean holdsAll(int person, int set) {
            for (int i = 0; i < things.size; i++) {
                if (isInSet(set, i) && !isSoundWith(i, person)) {
                    return false;
                }
            }
            return true;
        }

        boolean mayPassAll(int set) {
            for (int i = 0; i < things.size; i++) {
                if (isInSet(set, i) && !mayPass(i)) {
                    return false;
                }
            }
            return true;
        }

        /** The things that one could put behind a promise just now. */
        int couldPut(int person) {
            int set = 0;
            for (int i = 0; i < things.size; i++) {
                if (isSoundWith(i, person) && mayPass(i)) {
                    set |= 1 << i;
                }
            }
            return set;
        }

        void putBehind(int promise, int set) {
            for (int i = 0; i < things.size; i++) {
                if (isInSet(set, i)) {
                    things.append(i, promise);
                    things.holders[i] = promises.tos[promise];
                }
            }
        }

        boolean canSettle(int promise) {
            return promises.isOpen(promise) && things.endWith(promise);
        }

        int keepable() {
            int set = 0;
            for (int i = 0; i < promises.size; i++) {
                if (canSettle(i)) {
                    set |= 1 << i;
                }
            }
            return set;
        }

        /** Keeps a promise that can be kept: how many things come back. */
        int settle(int promise) {
            int back = 0;
            for (int i = 0; i < things.size; i++) {
                if (things.placeOf(i, promise) >= 0) {
                    things.lengths[i]--;
                    things.holders[i] = promises.froms[promise];
                    back++;
                }
            }
            promises.states[promise] = KEPT;
            return back;
        }

        int settleRound() {
            int settled = 0;
            for (int i = 0; i < promises.size; i++) {
                if (canSettle(i)) {
                    settle(i);
                    settled++;
                }
            }
            return settled;
        }

        /** Breaks an open promise: how many things have another owner then. */
        int fail(int promise) {
            int to = promises.tos[promise];
            int moved = 0;
            for (int i = 0; i < things.size; i++) {
                int place = things.placeOf(i, promise);
                if (place >= 0) {
                    int owner = things.owners[i];
                    people.harms[owner] += things.bases[i];
                    if (owner != to) {
                        moved++;
                    }
                    things.owners[i] = to;
                    things.dropFirst(i, place + 1);
                }
            }
            promises.states[promise] = BROKEN;
            return moved;
        }

        int passDay() {
            day++;
            things.rot();
            int broken = 0;
            for (int i = 0; i < promises.size; i++) {
                if (promises.isOpen(i) && promises.dues[i] < day) {
                    fail(i);
                    broken++;
                }
            }
            return broken;
        }

        /** Takes an amount off what one owes another. */
        void takeOff(int from, int to, int amount) {
            int left = amount;
            for (int i = 0; i < promises.size && left > 0; i++) {
                // One that stays open with a sum of 0 has nothing to come to 0 by.
                if (promises.isOpenBetween(i, from, to) && promises.sums[i] > 0) {
                    int taken = Math.min(left, promises.sums[i]);
                    left -= taken;
                    promises.sums[i] -= taken;
                    if (promises.sums[i] == 0 && canSettle(i)) {
                        settle(i);
                    }
                }
            }
        }

        int harmOf(int promise) {
            return things.basesOf(things.behind(promise));
        }

        /** The open promise whose break would do most harm; -1: none is open. */
        int mostHarmful() {
            int worst = -1;
            int most = -1;
            for (int i = 0; i < promises.size; i++) {
                if (promises.isOpen(i) && harmOf(i) > most) {
                    worst = i;
                    most = harmOf(i);
                }
            }
            return worst;
        }

        /** The fewest of a choice that counts the sum as a whole. */
        int fewestOf(int choice, int person, int sum) {
            int best = choice;
            int set = 0;
            for (int i = 0; i < 1 << MOST_CHOICE; i++) {
                // The sets come from the least on, so the first of so many is the least.
                if (Integer.bitCount(set) < Integer.bitCount(best) && worthOfAll(set, person, part) >= sum) {
                    best = set;
                }
                set = (set - choice) & choice;
            }
            return best;
        }
    }

    /** A shortest way from one of the people back to it, by what they owe. */
    private static final class Ring {
        final int[] members = new int[MOST_PEOPLE];
        /** For each of the people, as a set, those to whom it owes something. */
        final int[] owes = new int[MOST_PEOPLE];
        /** Those from whom the way back takes just so many steps, as a set. */
        final int[] layers = new int[MOST_PEOPLE];
        /** 0: there is no ring. */
        int length;

        void find(Town town, int person) {
            fillOwes(town.promises);
            fillLayers(town.people.size, person);
            length = 0;
            for (int steps = 1; steps < MOST_PEOPLE && length == 0; steps++) {
                if ((owes[person] & layers[steps]) != 0) {
                    length = steps + 1;
                }
            }
            if (length > 0) {
                fillMembers(person);
            }
        }

        int next(int i) {
            return members[i + 1 < length ? i + 1 : 0];
        }

        int leastOwed(Town town) {
            int least = town.promises.sumBetween(members[0], next(0));
            for (int i = 1; i < length; i++) {
                least = Math.min(least, town.promises.sumBetween(members[i], next(i)));
            }
            return least;
        }

        private void fillOwes(Promises promises) {
            for (int i = 0; i < MOST_PEOPLE; i++) {
                owes[i] = 0;
            }
            for (int i = 0; i < promises.size; i++) {
                if (promises.isOpen(i) && promises.sums[i] > 0) {
                    owes[promises.froms[i]] |= 1 << promises.tos[i];
                }
            }
        }

        private void fillLayers(int people, int person) {
            int seen = 1 << person;
            layers[0] = seen;
            for (int steps = 1; steps < MOST_PEOPLE; steps++) {
                int layer = 0;
                for (int i = 0; i < people; i++) {
                    if (!isInSet(seen, i) && (owes[i] & layers[steps - 1]) != 0) {
                        layer |= 1 << i;
                    }
                }
                layers[steps] = layer;
                seen |= layer;
            }
        }

        private void fillMembers(int person) {
            members[0] = person;
            for (int i = 1; i < length; i++) {
                members[i] = leastIn(owes[members[i - 1]] & layers[length - i]);
            }
        }

        private static int leastIn(int set) {
            for (int i = 0; i < MOST_PEOPLE; i++) {
                if (isInSet(set, i)) {
                    return i;
                }
            }
            return 0;
        }
    }

    /** The bytes of a text, and the token at which its reading stands. */
    private static final class Tape {
        static final int END = 0;
        static final int WORD = 1;
        static final int NUMBER = 2;
        static final int SIGN = 3;
        static final int OTHER = 4;

        final int[] bytes = new int[MOST_BYTES];
        int length;
        private int token;
        private int start;
        private int end;
        private int number;

        boolean hasRoom(int n) {
            return length + n <= MOST_BYTES;
        }

        int append(int number, int n) {
            for (int i = n - 1; i >= 0; i--) {
                bytes[length] = (number >>> (8 * i)) & 255;
                length++;
            }
            return length;
        }

        int clear() {
            int had = length;
            length = 0;
            return had;
        }

        /** Brings the items into a town: how many, or -1 less the place of the fault. */
        int tellTown(Town town) {
            end = 0;
            int items = 0;
            // Each item has a byte at least, so there are no more items than bytes.
            for (int i = 0; i <= MOST_BYTES; i++) {
                step();
                if (!tellItem(town)) {
                    break;
                }
                items++;
                if (token == END) {
                    return items;
                }
                if (token != SIGN) {
                    break;
                }
            }
            return -1 - start;
        }

        private boolean tellItem(Town town) {
            if (isWord("thing")) {
                return tellThing(town);
            }
            if (isWord("pass")) {
                step();
                if (!isNumberUpTo(MOST_PASS)) {
                    return false;
                }
                town.pass = number;
            } else if (isWord("part")) {
                step();
                if (!isNumberUpTo(MOST_PART)) {
                    return false;
                }
                town.part = number;
            } else {
                int kind = kindNamed();
                if (kind < 0 || town.people.isFull()) {
                    return false;
                }
                town.people.enter(kind);
            }
            step();
            return true;
        }

        private boolean tellThing(Town town) {
            if (town.things.isFull()) {
                return false;
            }
            step();
            if (!isNumberUpTo(town.people.size - 1)) {
                return false;
            }
            int owner = number;
            step();
            if (!isNumberUpTo(MOST_BASE)) {
                return false;
            }
            int base = number;
            int rot = 0;
            step();
            if (isWord("rot")) {
                step();
                if (!isNumberUpTo(MOST_ROT)) {
                    return false;
                }
                rot = number;
                step();
            }
            town.things.enter(owner, base, rot);
            return true;
        }

        /** Goes to the next token. */
        private void step() {
            start = end;
            while (start < length && bytes[start] == ' ') {
                start++;
            }
            end = start;
            if (start >= length) {
                token = END;
            } else if (isLetter(bytes[start])) {
                token = WORD;
                while (end < length && isLetter(bytes[end])) {
                    end++;
                }
            } else if (isDigit(bytes[start])) {
                token = NUMBER;
                stepOverDigits();
            } else {
                token = bytes[start] == ';' ? SIGN : OTHER;
                end++;
            }
        }

        private void stepOverDigits() {
            number = 0;
            while (end < length && isDigit(bytes[end])) {
                // One that is too large already stays so, however many digits follow.
                if (number <= MOST_NUMBER) {
                    number = number * 10 + bytes[end] - '0';
                }
                end++;
            }
        }

        private boolean isNumberUpTo(int most) {
            return token == NUMBER && number <= most;
        }

        private boolean isWord(String word) {
            if (token != WORD || end - start != word.length()) {
                return false;
            }
            for (int i = 0; i < word.length(); i++) {
                if (bytes[start + i] != word.charAt(i)) {
                    return false;
                }
            }
            return true;
        }

        private int kindNamed() {
            for (int kind = 0; kind < KINDS; kind++) {
                if (isWord(nameOf(kind))) {
                    return kind;
                }
            }
            return -1;
        }

        private static boolean isLetter(int b) {
            return b >= 'a' && b <= 'z';
        }

        private static boolean isDigit(int b) {
            return b >= '0' && b <= '9';
        }
    }

    private static final class Sheet {
        final long[] row = new long[MOST_ROW];
        /** 0: it is missing. */
        int bits;
        int size;

        boolean isMissing() {
            return bits == 0;
        }

        int lay(int newBits, int n) {
            bits = newBits;
            size = newBits == 0 ? 0 : n;
            for (int i = 0; i < MOST_ROW; i++) {
                row[i] = 0;
            }
            return size;
        }

        /** Numbers have a sign, as Java's own of so many bits have. */
        long put(int i, long v) {
            long was = row[i];
            row[i] = bits == 8 ? (byte) v : bits == 16 ? (short) v : v;
            return was;
        }

        boolean hasRange(int from, int n) {
            return from >= 0 && n >= 0 && n <= size && from <= size - n;
        }
    }
}
