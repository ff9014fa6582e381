/**
 * Each finding of each act, told to one of two towns that were made alike: it is counted by status(), and to all else
 * that can be asked then both answer alike.
 */
public final class RefusalsTest {
    private static final int BEYOND = -1000000001;
    private static final int FULL = -1000000002;
    private static final int KIND = -1000000003;
    private static final int NONE = -1000000004;
    private static final int STATE = -1000000005;
    private static final int MISSING = -1000000006;
    private static final int SIZE = -1000000007;

    private static int refused = 0;
    private static int wrong = 0;

    private interface Call {
        long on(SpoonWords x);
    }

    private interface Maker {
        SpoonWords make();
    }

    public static void main(String[] args) {
        peopleAndThings();
        promises();
        whatFollows();
        textAndSheets();
        images();
        System.out.println(refused + " refused calls, " + wrong + " wrong");
        if (wrong != 0) {
            System.exit(1);
        }
    }

    private static void fault(String told) {
        wrong++;
        System.out.println(told);
    }

    // ---- the towns

    /** Four bytes a call, for an object has but 512 calls. */
    private static void text(SpoonWords x, String text) {
        for (int i = 0; i < text.length(); i += 4) {
            int bytes = 0;
            int n = Math.min(4, text.length() - i);
            for (int k = 0; k < n; k++) {
                bytes = bytes << 8 | text.charAt(i + k);
            }
            x.feed(bytes, n);
        }
    }

    /** As full as may be, on a late day, with a ring, an image, sheets, and a text that could be told. */
    private static SpoonWords fullTown() {
        SpoonWords x = new SpoonWords();
        for (int i = 0; i < 10; i++) {
            x.person(i < 7 ? 2 : i - 6);
        }
        for (int i = 0; i < 19; i++) {
            x.days(50);
        }
        x.days(20);
        x.rule(0, 5);
        for (int i = 0; i < 3; i++) {
            x.thing(i, 100 + i, i);
        }
        for (int i = 3; i < 16; i++) {
            x.thing(6, 10 + i, 1);
        }
        // Thing 0 goes six times to and fro; 1 and 2 close a ring of three; 3 is stolen.
        for (int i = 0; i < 6; i++) {
            x.promise(i % 2, 1 - i % 2, 50 + i, 90, 1);
        }
        x.promise(1, 2, 40, 90, 2);
        x.promise(2, 0, 30, 90, 4);
        x.steal(3);
        x.image();
        for (int i = 8; i < 24; i++) {
            x.promise(6, 5, 10, 90, 16);
            if (i < 22) {
                x.keep(i);
            } else if (i == 22) {
                x.breaks(i);
                x.promise(5, 6, 10, 90, 16);
            }
        }
        x.rule(0, 4);
        sheets(x);
        text(x, "pass 3;part 40" + " ".repeat(86));
        return x;
    }

    private static void sheets(SpoonWords x) {
        x.sheet(0, 8, 3);
        x.sheet(1, 16, 2);
        x.sheet(2, 8, 2);
        for (int i = 0; i < 2; i++) {
            x.write(0, i, 7 + i);
            x.write(1, i, 17 + i);
            x.write(2, i, 27 + i);
        }
    }

    /** Two people, one thing, and no promise; no image. */
    private static SpoonWords smallTown() {
        SpoonWords x = new SpoonWords();
        x.person(2);
        x.person(0);
        x.thing(0, 10, 1);
        sheets(x);
        text(x, "child");
        return x;
    }

    // ---- what is asked of both

    /** All that can be asked; the asking itself changes what it asks for, in both alike. */
    private static String picture(SpoonWords x) {
        StringBuilder all = new StringBuilder();
        for (int which = -1; which <= 6; which++) {
            all.append(x.status(which)).append(' ');
        }
        all.append('|');
        state(x, all);
        for (int s = 0; s < 3; s++) {
            for (int i = 0; i < 3; i++) {
                all.append(x.write(s, i, 1)).append(' ');
            }
        }
        all.append(x.sheet(3, 8, 1)).append(" town ").append(x.town()).append(' ');
        all.append(x.rule(0, 5)).append(' ').append(x.rule(1, 66)).append(' ').append(x.count(0));
        all.append(" undo ").append(x.undo()).append(' ').append(x.rule(0, 5)).append(' ').append(x.can());
        return all.append(' ').append(x.count(6)).append(' ').append(x.tear()).toString();
    }

    private static void state(SpoonWords x, StringBuilder all) {
        for (int what = 0; what <= 6; what++) {
            all.append(x.count(what)).append(' ');
        }
        for (int i = 0; i < x.count(0); i++) {
            all.append(x.personOf(i, 0)).append(' ').append(x.personOf(i, 1)).append(' ');
        }
        for (int i = 0; i < x.count(1); i++) {
            for (int what = 0; what <= 5; what++) {
                all.append(x.thingOf(i, what)).append(' ');
            }
            for (int k = 0; k < x.thingOf(i, 4); k++) {
                all.append(x.chain(i, k)).append(' ');
            }
        }
        for (int i = 0; i < x.count(2); i++) {
            for (int what = 0; what <= 4; what++) {
                all.append(x.promiseOf(i, what)).append(' ');
            }
        }
    }

    private static void isRefused(Maker maker, String told, int finding, Call call) {
        refused++;
        SpoonWords x = maker.make();
        SpoonWords y = maker.make();
        long got = call.on(x);
        if (got != finding) {
            fault(told + " answered " + got + ", due is " + finding);
            return;
        }
        int which = BEYOND - finding;
        String[] seen = picture(x).split("\\|");
        String[] due = picture(y).split("\\|");
        String[] counted = seen[0].split(" ");
        String[] before = due[0].split(" ");
        for (int i = 0; i < 8; i++) {
            int more = i == 0 || i == which + 1 ? 1 : 0;
            if (Integer.parseInt(counted[i]) != Integer.parseInt(before[i]) + more) {
                fault(told + ": status(" + (i - 1) + ") is " + counted[i] + ", ahead of it " + before[i]);
            }
        }
        if (!seen[1].equals(due[1])) {
            fault(told + " changed\n  " + due[1] + "\nto\n  " + seen[1]);
        }
    }

    private static void full(String told, int finding, Call call) {
        isRefused(RefusalsTest::fullTown, told, finding, call);
    }

    private static void small(String told, int finding, Call call) {
        isRefused(RefusalsTest::smallTown, told, finding, call);
    }

    // ---- the findings, act by act

    private static void peopleAndThings() {
        small("person BEYOND", BEYOND, x -> x.person(6));
        full("person FULL", FULL, x -> x.person(0));
        small("thing BEYOND owner", BEYOND, x -> x.thing(2, 1, 1));
        small("thing BEYOND base", BEYOND, x -> x.thing(0, 10000, 1));
        small("thing BEYOND rot", BEYOND, x -> x.thing(0, 1, 100));
        full("thing FULL", FULL, x -> x.thing(0, 1, 1));
        full("personOf BEYOND", BEYOND, x -> x.personOf(0, 5));
        full("thingOf BEYOND", BEYOND, x -> x.thingOf(0, 6));
        full("chain BEYOND", BEYOND, x -> x.chain(0, 6));
        full("chain NONE", NONE, x -> x.chain(1, 1));
        full("counts BEYOND", BEYOND, x -> x.counts(0, 10));
        full("as BEYOND", BEYOND, x -> x.as(0, 6));
        full("as KIND", KIND, x -> x.as(0, 1));
        full("rule BEYOND what", BEYOND, x -> x.rule(2, 1));
        full("rule BEYOND pass", BEYOND, x -> x.rule(0, 6));
        full("rule BEYOND part", BEYOND, x -> x.rule(1, 101));
        full("base BEYOND thing", BEYOND, x -> x.base(16, 1));
        full("base BEYOND base", BEYOND, x -> x.base(0, 10000));
        full("steal BEYOND", BEYOND, x -> x.steal(16));
        full("steal STATE", STATE, x -> x.steal(3));
    }

    private static void promises() {
        small("promise BEYOND from", BEYOND, x -> x.promise(2, 1, 1, 0, 1));
        small("promise BEYOND to", BEYOND, x -> x.promise(0, 2, 1, 0, 1));
        small("promise BEYOND the same", BEYOND, x -> x.promise(0, 0, 1, 0, 1));
        small("promise BEYOND sum", BEYOND, x -> x.promise(0, 1, 0, 0, 1));
        small("promise BEYOND due", BEYOND, x -> x.promise(0, 1, 1, 100, 1));
        small("promise BEYOND set", BEYOND, x -> x.promise(0, 1, 1, 0, 3));
        small("promise STATE", STATE, x -> x.promise(1, 0, 1, 0, 1));
        full("promise STATE stolen", STATE, x -> x.promise(6, 5, 1, 0, 24));
        full("promise KIND", KIND, x -> x.promise(0, 1, 1, 0, 1));
        small("promise SIZE", SIZE, x -> x.promise(0, 1, 7, 0, 1));
        full("promise FULL", FULL, x -> x.promise(6, 5, 1, 0, 32));
        full("promiseOf BEYOND", BEYOND, x -> x.promiseOf(0, 7));
        full("keep BEYOND", BEYOND, x -> x.keep(24));
        full("keep STATE kept", STATE, x -> x.keep(8));
        full("keep STATE broken", STATE, x -> x.keep(22));
        full("keep KIND", KIND, x -> x.keep(0));
        full("breaks BEYOND", BEYOND, x -> x.breaks(24));
        full("breaks STATE kept", STATE, x -> x.breaks(8));
        full("breaks STATE broken", STATE, x -> x.breaks(22));
        full("days BEYOND", BEYOND, x -> x.days(51));
        full("days STATE", STATE, x -> x.days(30));
    }

    private static void whatFollows() {
        full("owed BEYOND", BEYOND, x -> x.owed(0, 0));
        full("ring BEYOND", BEYOND, x -> x.ring(0, 10));
        full("ring NONE", NONE, x -> x.ring(9, -1));
        full("ring NONE of so many", NONE, x -> x.ring(0, 2));
        full("cancel BEYOND", BEYOND, x -> x.cancel(10));
        full("cancel NONE", NONE, x -> x.cancel(9));
        full("fewest BEYOND", BEYOND, x -> x.fewest(0, 1, 0));
        full("fewest SIZE", SIZE, x -> x.fewest(6, 5, 1));
        full("fewest NONE", NONE, x -> x.fewest(9, 5, 1));
        full("most BEYOND", BEYOND, x -> x.most(0, 0));
        full("look BEYOND", BEYOND, x -> x.look(0, 2));
        full("look STATE", STATE, x -> x.look(8, 1));
        small("worst NONE", NONE, x -> x.worst());
        full("night BEYOND", BEYOND, x -> x.night(3));
        full("least BEYOND", BEYOND, x -> x.least(1 << 16, 0, 1));
        full("least NONE", NONE, x -> x.least(1, 0, 9999));
    }

    private static void textAndSheets() {
        small("feed BEYOND", BEYOND, x -> x.feed(0, 5));
        full("feed FULL", FULL, x -> x.feed(0, 1));
        full("sheet BEYOND sheet", BEYOND, x -> x.sheet(4, 8, 1));
        full("sheet BEYOND bits", BEYOND, x -> x.sheet(0, 9, 1));
        full("sheet SIZE", SIZE, x -> x.sheet(0, 8, -1));
        full("sheet SIZE with bits 0", SIZE, x -> x.sheet(0, 0, -1));
        full("sheet BEYOND n", BEYOND, x -> x.sheet(0, 8, 41));
        full("sheet BEYOND n with bits 0", BEYOND, x -> x.sheet(0, 0, 41));
        full("write BEYOND sheet", BEYOND, x -> x.write(4, 0, 5));
        full("write MISSING", MISSING, x -> x.write(3, 0, 5));
        full("write BEYOND number", BEYOND, x -> x.write(1, 2, 5));
        full("copy BEYOND sheet", BEYOND, x -> x.copy(0, 0, 4, 0, 1));
        full("copy MISSING", MISSING, x -> x.copy(3, 0, 0, 0, 1));
        full("copy KIND", KIND, x -> x.copy(0, 0, 1, 0, 1));
        full("copy BEYOND to", BEYOND, x -> x.copy(0, 0, 2, 0, 3));
        full("copy BEYOND from", BEYOND, x -> x.copy(2, 1, 0, 0, 2));
        full("copy BEYOND below 0", BEYOND, x -> x.copy(0, 0, 2, -1, 2));
        full("lays BEYOND", BEYOND, x -> x.lays(4));
        full("lays MISSING", MISSING, x -> x.lays(3));
        full("keeps BEYOND", BEYOND, x -> x.keeps(4));
        full("keeps MISSING", MISSING, x -> x.keeps(3));
        full("read BEYOND", BEYOND, x -> x.read(4));
        full("read MISSING", MISSING, x -> x.read(3));
    }

    private static void images() {
        small("undo NONE", NONE, x -> x.undo());
        full("count BEYOND", BEYOND, x -> x.count(7));
        full("status BEYOND above", BEYOND, x -> x.status(7));
        full("status BEYOND below", BEYOND, x -> x.status(-2));
    }
}
