/** For each promise of the document: ordinary calls, the edges that it names, and wrong inputs in their order. */
public final class PromisesTest {
    private static final int BEYOND = -1000000001;
    private static final int FULL = -1000000002;
    private static final int KIND = -1000000003;
    private static final int NONE = -1000000004;
    private static final int STATE = -1000000005;
    private static final int MISSING = -1000000006;
    private static final int SIZE = -1000000007;
    private static final int LOW = Integer.MIN_VALUE;
    private static final int HIGH = Integer.MAX_VALUE;

    private static int wrong = 0;
    private static int asked = 0;

    private static void due(String call, long got, long want) {
        asked++;
        if (got != want) {
            wrong++;
            System.out.println(call + " answered " + got + ", due is " + want);
        }
    }

    public static void main(String[] args) {
        newObject();
        person();
        thing();
        personOf();
        thingOf();
        chain();
        counts();
        as();
        rule();
        base();
        steal();
        promise();
        promiseOf();
        keep();
        breaks();
        days();
        can();
        owed();
        ring();
        cancel();
        fewest();
        most();
        look();
        worst();
        night();
        least();
        bare();
        feed();
        wipe();
        town();
        townFaults();
        sheet();
        write();
        copy();
        lays();
        keeps();
        read();
        images();
        count();
        status();
        System.out.println(asked + " answers asked, " + wrong + " not as due");
        if (wrong != 0) {
            System.exit(1);
        }
    }

    /** A new object with people of these kinds. */
    private static SpoonWords people(int... kinds) {
        SpoonWords x = new SpoonWords();
        for (int kind : kinds) {
            x.person(kind);
        }
        return x;
    }

    /** Three lenders, for whom a thing counts its base; PASS 5. */
    private static SpoonWords lenders() {
        SpoonWords x = people(2, 2, 2);
        x.rule(0, 5);
        return x;
    }

    private static int tell(SpoonWords x, String text) {
        for (int i = 0; i < text.length(); i++) {
            x.feed(text.charAt(i), 1);
        }
        return x.town();
    }

    // ---- people, things

    private static void newObject() {
        SpoonWords x = new SpoonWords();
        for (int what = 0; what <= 6; what++) {
            due("1: count " + what, x.count(what), 0);
        }
        due("1: pass", x.rule(0, 1), 1);
        due("1: part", x.rule(1, 66), 66);
        for (int s = 0; s < 4; s++) {
            due("1: sheet " + s, x.read(s), MISSING);
        }
        due("1: no image", x.tear(), 0);
        due("1: status", x.status(-1), 4);
    }

    private static void person() {
        SpoonWords x = new SpoonWords();
        due("2: kind -1", x.person(-1), BEYOND);
        due("2: kind 6", x.person(6), BEYOND);
        due("2: lowest", x.person(LOW), BEYOND);
        due("2: highest", x.person(HIGH), BEYOND);
        for (int i = 0; i < 10; i++) {
            due("2: person " + i, x.person(i % 6), i);
        }
        due("2: full", x.person(0), FULL);
        due("2: beyond ahead of full", x.person(6), BEYOND);
        due("2: there are", x.count(0), 10);
        due("2: last one's kind", x.personOf(9, 0), 3);
    }

    private static void thing() {
        SpoonWords x = people(0, 1);
        due("3: owner -1", x.thing(-1, 1, 1), BEYOND);
        due("3: owner 2", x.thing(2, 1, 1), BEYOND);
        due("3: base -1", x.thing(0, -1, 1), BEYOND);
        due("3: base 10000", x.thing(0, 10000, 1), BEYOND);
        due("3: rot -1", x.thing(0, 1, -1), BEYOND);
        due("3: rot 100", x.thing(0, 1, 100), BEYOND);
        due("3: none came", x.count(1), 0);
        due("3: least", x.thing(0, 0, 0), 0);
        due("3: most", x.thing(1, 9999, 99), 1);
        for (int i = 2; i < 16; i++) {
            due("3: thing " + i, x.thing(0, i, 0), i);
        }
        due("3: full", x.thing(0, 1, 1), FULL);
        due("3: beyond ahead of full", x.thing(0, 1, 100), BEYOND);
        due("3: holder is owner", x.thingOf(1, 1), 1);
    }

    private static void personOf() {
        SpoonWords x = people(4, 2);
        x.thing(0, 40, 0);
        x.thing(1, 50, 0);
        x.thing(0, 60, 0);
        x.promise(0, 1, 40, 0, 1);
        due("4: kind", x.personOf(0, 0), 4);
        due("4: owns", x.personOf(0, 2), 5);
        due("4: holds", x.personOf(0, 3), 4);
        due("4: base held", x.personOf(0, 4), 60);
        due("4: other owns", x.personOf(1, 2), 2);
        due("4: other holds", x.personOf(1, 3), 3);
        due("4: other base held", x.personOf(1, 4), 90);
        x.steal(0);
        due("4: harm", x.personOf(1, 1), 40);
        due("4: a stolen one still has its holder", x.personOf(1, 3), 3);
        due("4: and its base", x.personOf(1, 4), 90);
        due("4: person -1", x.personOf(-1, 0), BEYOND);
        due("4: person 2", x.personOf(2, 0), BEYOND);
        due("4: what -1", x.personOf(0, -1), BEYOND);
        due("4: what 5", x.personOf(0, 5), BEYOND);
        due("4: highest", x.personOf(HIGH, LOW), BEYOND);
    }

    private static void thingOf() {
        SpoonWords x = people(0, 2);
        x.thing(0, 40, 3);
        x.promise(0, 1, 40, 0, 1);
        x.steal(0);
        int[] want = {0, 1, 40, 3, 1, 1};
        for (int what = 0; what < 6; what++) {
            due("5: what " + what, x.thingOf(0, what), want[what]);
        }
        due("5: thing -1", x.thingOf(-1, 0), BEYOND);
        due("5: thing 1", x.thingOf(1, 0), BEYOND);
        due("5: what -1", x.thingOf(0, -1), BEYOND);
        due("5: what 6", x.thingOf(0, 6), BEYOND);
    }

    private static void chain() {
        SpoonWords x = lenders();
        x.thing(0, 10, 0);
        due("6: none", x.chain(0, 0), NONE);
        for (int i = 0; i < 6; i++) {
            x.promise(i % 2, 1 - i % 2, 10, 0, 1);
        }
        for (int i = 0; i < 6; i++) {
            due("6: place " + i, x.chain(0, i), i);
        }
        due("6: i -1", x.chain(0, -1), BEYOND);
        due("6: i 6", x.chain(0, 6), BEYOND);
        due("6: thing -1", x.chain(-1, 0), BEYOND);
        due("6: thing 1", x.chain(1, 0), BEYOND);
        x.keep(5);
        due("6: came off", x.chain(0, 5), NONE);
    }

    private static void counts() {
        SpoonWords x = people(0, 1, 2, 3, 4, 5);
        int[][] want = {
            {0, 0, 0, 0, 0, 0, 0},
            {1, 0, 0, 1, 0, 1, 5},
            {50, 33, 16, 50, 33, 55, 21},
            {51, 33, 16, 51, 0, 56, 21},
            {9999, 6599, 3299, 9999, 0, 10998, 3304},
        };
        for (int thing = 0; thing < want.length; thing++) {
            x.thing(0, want[thing][0], 0);
            for (int person = 0; person < 6; person++) {
                due("7: base " + want[thing][0] + " for kind " + person, x.counts(thing, person), want[thing][person + 1]);
            }
        }
        x.rule(1, 100);
        due("7: whole part", x.counts(4, 0), 9999);
        x.rule(1, 0);
        due("7: no part", x.counts(4, 0), 0);
        due("7: no part for a keeper", x.counts(4, 5), 5);
        x.steal(4);
        for (int person = 0; person < 6; person++) {
            due("7: stolen for kind " + person, x.counts(4, person), 0);
        }
        due("7: thing -1", x.counts(-1, 0), BEYOND);
        due("7: thing 5", x.counts(5, 0), BEYOND);
        due("7: person -1", x.counts(0, -1), BEYOND);
        due("7: person 6", x.counts(0, 6), BEYOND);
    }

    private static void as() {
        SpoonWords x = people(0, 1, 2, 3, 4, 5);
        x.thing(0, 40, 0);
        x.thing(3, 60, 0);
        int[] all = {65, 32, 100, 26, 110, 42};
        String[] under = {"0", "01", "02", "03", "024", "015"};
        for (int person = 0; person < 6; person++) {
            for (int kind = 0; kind < 6; kind++) {
                boolean is = under[person].indexOf((char) ('0' + kind)) >= 0;
                due("8: " + person + " as " + kind, x.as(person, kind), is ? all[person] : KIND);
            }
        }
        due("8: person -1", x.as(-1, 0), BEYOND);
        due("8: person 6", x.as(6, 0), BEYOND);
        due("8: kind -1", x.as(0, -1), BEYOND);
        due("8: kind 6", x.as(0, 6), BEYOND);
        x.steal(1);
        due("8: less a stolen one", x.as(4, 0), 44);
    }

    private static void rule() {
        SpoonWords x = new SpoonWords();
        due("9: pass", x.rule(0, 5), 1);
        due("9: pass again", x.rule(0, 0), 5);
        due("9: part", x.rule(1, 100), 66);
        due("9: part again", x.rule(1, 0), 100);
        due("9: what -1", x.rule(-1, 0), BEYOND);
        due("9: what 2", x.rule(2, 0), BEYOND);
        due("9: pass -1", x.rule(0, -1), BEYOND);
        due("9: pass 6", x.rule(0, 6), BEYOND);
        due("9: part -1", x.rule(1, -1), BEYOND);
        due("9: part 101", x.rule(1, 101), BEYOND);
        due("9: pass stayed", x.rule(0, 1), 0);
        due("9: part stayed", x.rule(1, 1), 0);
    }

    private static void base() {
        SpoonWords x = people(0);
        x.thing(0, 7, 0);
        due("10: most", x.base(0, 9999), 7);
        due("10: least", x.base(0, 0), 9999);
        due("10: -1", x.base(0, -1), BEYOND);
        due("10: 10000", x.base(0, 10000), BEYOND);
        due("10: thing -1", x.base(-1, 1), BEYOND);
        due("10: thing 1", x.base(1, 1), BEYOND);
        due("10: stayed", x.thingOf(0, 2), 0);
    }

    private static void steal() {
        SpoonWords x = people(0, 2);
        x.thing(0, 40, 0);
        x.promise(0, 1, 40, 0, 1);
        due("11: its holder", x.steal(0), 1);
        due("11: holder's harm", x.personOf(1, 1), 40);
        due("11: owner has none", x.personOf(0, 1), 0);
        due("11: it is", x.steal(0), STATE);
        due("11: no more harm", x.personOf(1, 1), 40);
        due("11: stays in its chain", x.thingOf(0, 4), 1);
        due("11: comes back", x.keep(0), 1);
        due("11: to its owner", x.thingOf(0, 1), 0);
        due("11: stolen as it is", x.thingOf(0, 5), 1);
        due("11: thing -1", x.steal(-1), BEYOND);
        due("11: thing 1", x.steal(1), BEYOND);
        stolenOnes();
    }

    /** A theft takes away what a thing counts, and nothing else that is told of it. */
    private static void stolenOnes() {
        SpoonWords x = lenders();
        x.thing(0, 40, 7);
        x.thing(0, 5, 0);
        x.promise(0, 1, 40, 9, 1);
        x.steal(0);
        due("4: owned still", x.personOf(0, 2), 3);
        due("4: held still", x.personOf(1, 3), 1);
        due("4: base of all held", x.personOf(1, 4), 40);
        due("40: bases of all", x.count(6), 45);
        due("23: harm by its base", x.look(0, 0), 40);
        due("24: and the worst by it", x.worst(), 0);
        due("16: a day", x.days(1), 0);
        due("16: it rots", x.thingOf(0, 2), 33);
        due("10: its base", x.base(0, 20), 33);
        x.sheet(0, 8, 1);
        x.write(0, 0, 50);
        due("34: its base is laid", x.lays(0), 1);
        due("34: so much", x.thingOf(0, 2), 50);
        due("7: and counts nothing", x.counts(0, 1), 0);
        due("15: broken", x.breaks(0), 1);
        due("15: stolen still", x.thingOf(0, 5), 1);
        due("15: harm by its base", x.personOf(0, 1), 50);
    }

    // ---- promises

    private static void promise() {
        SpoonWords x = people(2, 2, 0);
        x.thing(0, 40, 0);
        x.thing(0, 30, 0);
        x.thing(1, 20, 0);
        int[][] beyond = {
            {-1, 1, 1, 0, 1}, {3, 1, 1, 0, 1}, {0, -1, 1, 0, 1}, {0, 3, 1, 0, 1}, {0, 0, 1, 0, 1},
            {0, 1, 0, 0, 1}, {0, 1, 10000, 0, 1}, {0, 1, -1, 0, 1}, {0, 1, 1, -1, 1}, {0, 1, 1, 100, 1},
            {0, 1, 1, 0, 8}, {0, 1, 1, 0, -1}, {0, 1, 1, 0, LOW}, {0, 1, 1, 0, 65536 + 1},
        };
        for (int[] a : beyond) {
            due("12: beyond", x.promise(a[0], a[1], a[2], a[3], a[4]), BEYOND);
        }
        due("12: holds one of two", x.promise(0, 1, 1, 0, 5), STATE);
        due("12: too little", x.promise(0, 1, 71, 0, 3), SIZE);
        due("12: nothing behind it", x.promise(0, 1, 1, 0, 0), SIZE);
        due("12: counts for the other one", x.promise(0, 2, 27, 0, 1), SIZE);
        due("12: nothing came", x.count(2), 0);
        due("12: just enough", x.promise(0, 1, 70, 99, 3), 0);
        due("12: holder", x.personOf(1, 3), 7);
        due("12: owner", x.personOf(0, 2), 3);
        due("12: its chain", x.chain(1, 0), 0);
        due("12: due", x.promiseOf(0, 3), 99);
        due("12: passed on once", x.promise(1, 0, 40, 0, 1), 1);
        due("12: not twice", x.promise(0, 1, 9999, 0, 1), KIND);
        due("12: state ahead of kind", x.promise(0, 1, 1, 0, 3), STATE);
        x.rule(0, 0);
        due("12: pass 0, one that is passed on", x.promise(1, 0, 1, 0, 2), KIND);
        due("12: pass 0, its own", x.promise(1, 0, 20, 0, 4), 2);
        x.rule(0, 5);
        x.steal(0);
        due("12: stolen", x.promise(0, 1, 1, 0, 1), STATE);
        chainOfSix();
        manyPromises();
    }

    private static void chainOfSix() {
        SpoonWords x = lenders();
        x.thing(0, 10, 0);
        for (int i = 0; i < 6; i++) {
            due("12: link " + i, x.promise(i % 2, 1 - i % 2, 10, 0, 1), i);
        }
        due("12: a seventh", x.promise(0, 1, 10, 0, 1), KIND);
    }

    private static void manyPromises() {
        SpoonWords x = lenders();
        x.thing(0, 10, 0);
        for (int i = 0; i < 24; i++) {
            due("12: promise " + i, x.promise(0, 1, 10, 0, 1), i);
            x.keep(i);
        }
        due("12: full", x.promise(0, 1, 10, 0, 1), FULL);
        due("12: size ahead of full", x.promise(0, 1, 11, 0, 1), SIZE);
        due("12: there are", x.count(2), 24);
        due("12: still the owner's", x.thingOf(0, 1), 0);
        due("12: could put it all the same", x.most(0, 1), 10);
    }

    private static void promiseOf() {
        SpoonWords x = people(0, 1, 2);
        x.thing(0, 40, 10);
        x.thing(0, 50, 0);
        x.days(7);
        x.base(0, 40);
        x.promise(0, 1, 29, 5, 3);
        int[] want = {0, 1, 29, 12, 0, 29, 3};
        for (int what = 0; what < 7; what++) {
            due("13: what " + what, x.promiseOf(0, what), want[what]);
        }
        x.promise(1, 2, 40, 9, 1);
        due("13: cover for the other one", x.promiseOf(1, 5), 40);
        due("13: the chain's first is covered too", x.promiseOf(0, 5), 29);
        x.steal(1);
        due("13: less cover", x.promiseOf(0, 5), 13);
        x.keep(1);
        due("13: kept", x.promiseOf(1, 4), 1);
        due("13: no things", x.promiseOf(1, 6), 0);
        due("13: no cover", x.promiseOf(1, 5), 0);
        due("13: its sum stays", x.promiseOf(1, 2), 40);
        x.breaks(0);
        due("13: broken", x.promiseOf(0, 4), 2);
        due("13: promise -1", x.promiseOf(-1, 0), BEYOND);
        due("13: promise 2", x.promiseOf(2, 0), BEYOND);
        due("13: what -1", x.promiseOf(0, -1), BEYOND);
        due("13: what 7", x.promiseOf(0, 7), BEYOND);
    }

    private static void keep() {
        SpoonWords x = lenders();
        x.thing(0, 40, 0);
        x.thing(0, 50, 0);
        x.promise(0, 1, 90, 0, 3);
        x.promise(1, 2, 50, 0, 2);
        due("14: promise -1", x.keep(-1), BEYOND);
        due("14: promise 2", x.keep(2), BEYOND);
        due("14: not the last of one", x.keep(0), KIND);
        due("14: nothing came back", x.personOf(1, 3), 1);
        due("14: the last", x.keep(1), 1);
        due("14: holder", x.thingOf(1, 1), 1);
        due("14: off its chain", x.thingOf(1, 4), 1);
        due("14: both", x.keep(0), 2);
        due("14: home", x.personOf(0, 3), 3);
        due("14: kept already", x.keep(0), STATE);
        due("14: no harm", x.personOf(0, 1), 0);
        x.promise(0, 1, 40, 0, 1);
        x.promise(1, 2, 40, 0, 1);
        x.breaks(3);
        due("14: broken", x.keep(3), STATE);
        due("14: one without things", x.keep(2), 0);
        due("14: the owner stays", x.thingOf(0, 0), 2);
    }

    private static void breaks() {
        SpoonWords x = lenders();
        x.thing(0, 40, 0);
        x.thing(0, 50, 0);
        x.promise(0, 1, 90, 0, 3);
        x.promise(1, 2, 40, 0, 1);
        x.promise(2, 0, 40, 0, 1);
        due("15: promise -1", x.breaks(-1), BEYOND);
        due("15: promise 3", x.breaks(3), BEYOND);
        x.image();
        due("15: the first", x.breaks(0), 2);
        due("15: owner", x.personOf(1, 2), 3);
        due("15: harm of both", x.personOf(0, 1), 90);
        due("15: what stands behind stays", x.chain(0, 0), 1);
        due("15: and its next", x.chain(0, 1), 2);
        due("15: so many", x.thingOf(0, 4), 2);
        due("15: the other chain", x.thingOf(1, 4), 0);
        due("15: holder stays", x.thingOf(0, 1), 0);
        due("15: holder of the other", x.thingOf(1, 1), 1);
        due("15: broken already", x.breaks(0), STATE);
        x.undo();
        due("15: the middle", x.breaks(1), 1);
        due("15: what stands ahead is off", x.chain(0, 0), 2);
        due("15: but not off the other", x.chain(1, 0), 0);
        due("15: its owner", x.thingOf(0, 0), 2);
        due("15: the first is open still", x.promiseOf(0, 4), 0);
        due("15: with less cover", x.promiseOf(0, 5), 50);
        x.undo();
        due("15: to the owner itself", x.breaks(2), 0);
        due("15: harm all the same", x.personOf(0, 1), 40);
        due("15: chain is empty", x.thingOf(0, 4), 0);
        due("15: holder still", x.thingOf(0, 1), 0);
        x.undo();
        x.keep(2);
        x.keep(1);
        due("15: a kept one", x.breaks(1), STATE);
        x.steal(0);
        due("15: a stolen one has another owner too", x.breaks(0), 2);
        due("15: and does harm", x.personOf(0, 1), 90);
        due("15: its holder's harm by the theft", x.personOf(1, 1), 40);
        endedPromises();
    }

    /** One that is kept or broken tells still what it was, but lies behind nothing. */
    private static void endedPromises() {
        SpoonWords x = lenders();
        x.thing(0, 40, 0);
        x.thing(1, 70, 0);
        x.promise(0, 1, 30, 7, 1);
        x.promise(1, 2, 60, 8, 2);
        x.keep(0);
        x.breaks(1);
        int[] kept = {0, 1, 30, 7, 1, 0, 0};
        int[] broken = {1, 2, 60, 8, 2, 0, 0};
        for (int what = 0; what <= 6; what++) {
            due("13: of a kept one, what " + what, x.promiseOf(0, what), kept[what]);
            due("13: of a broken one, what " + what, x.promiseOf(1, what), broken[what]);
        }
        due("18: a broken one owes nothing", x.owed(1, 2), 0);
        due("27: neither is bare", x.bare(), 0);
    }

    private static void days() {
        SpoonWords x = lenders();
        x.thing(0, 10, 3);
        x.thing(1, 50, 0);
        x.promise(0, 1, 10, 2, 1);
        due("16: 0", x.days(0), BEYOND);
        due("16: -1", x.days(-1), BEYOND);
        due("16: 51", x.days(51), BEYOND);
        due("16: the day it is due", x.days(2), 0);
        due("16: open still", x.promiseOf(0, 4), 0);
        due("16: rotted", x.thingOf(0, 2), 4);
        due("16: the day behind it", x.days(1), 1);
        due("16: rotted ahead of the break", x.personOf(0, 1), 1);
        due("16: broken", x.promiseOf(0, 4), 2);
        due("16: owner", x.thingOf(0, 0), 1);
        due("16: no more", x.days(1), 0);
        due("16: 0 at least", x.thingOf(0, 2), 0);
        due("16: others don't rot", x.thingOf(1, 2), 50);
        x.promise(1, 0, 50, 0, 2);
        x.promise(0, 2, 50, 0, 2);
        due("16: by numbers", x.days(50), 2);
        due("16: first owner's harm", x.personOf(1, 1), 50);
        due("16: then the next one's", x.personOf(0, 1), 51);
        due("16: last", x.thingOf(1, 0), 2);
        for (int i = 0; i < 18; i++) {
            x.days(50);
        }
        due("16: day", x.count(4), 954);
        due("16: above 999", x.days(46), STATE);
        due("16: beyond ahead of state", x.days(51), BEYOND);
        due("16: no day went", x.count(4), 954);
        due("16: 999", x.days(45), 0);
        due("16: the last", x.days(1), STATE);
        due("16: a promise on the last day", x.promise(2, 1, 50, 99, 2), 3);
        due("16: due behind it", x.promiseOf(3, 3), 1098);
    }

    private static void can() {
        SpoonWords x = lenders();
        x.thing(0, 40, 0);
        x.thing(0, 50, 0);
        due("17: none", x.can(), 0);
        x.promise(0, 1, 90, 0, 3);
        x.promise(1, 2, 50, 0, 2);
        x.promise(1, 2, 40, 0, 1);
        due("17: the last ones", x.can(), 6);
        x.keep(1);
        due("17: still behind another", x.can(), 4);
        x.keep(2);
        due("17: the first", x.can(), 1);
        x.breaks(0);
        due("17: broken", x.can(), 0);
        x.promise(1, 2, 40, 0, 1);
        x.promise(2, 0, 40, 0, 1);
        x.breaks(4);
        due("17: one without things", x.can(), 8);
    }

    // ---- what follows

    private static void owed() {
        SpoonWords x = lenders();
        x.thing(0, 40, 0);
        x.thing(0, 50, 0);
        x.promise(0, 1, 30, 0, 1);
        x.promise(0, 1, 50, 0, 2);
        x.promise(1, 0, 7, 0, 2);
        due("18: both", x.owed(0, 1), 80);
        due("18: the other way", x.owed(1, 0), 7);
        due("18: none", x.owed(0, 2), 0);
        x.keep(0);
        due("18: less a kept one", x.owed(0, 1), 50);
        x.breaks(1);
        due("18: less a broken one", x.owed(0, 1), 0);
        due("18: from -1", x.owed(-1, 0), BEYOND);
        due("18: from 3", x.owed(3, 0), BEYOND);
        due("18: to -1", x.owed(0, -1), BEYOND);
        due("18: to 3", x.owed(0, 3), BEYOND);
        due("18: the same", x.owed(1, 1), BEYOND);
    }

    /** As many lenders as there may be, each with a thing. */
    private static SpoonWords tenLenders() {
        SpoonWords x = people(2, 2, 2, 2, 2, 2, 2, 2, 2, 2);
        for (int i = 0; i < 10; i++) {
            x.thing(i, 100, 0);
        }
        return x;
    }

    private static void isRing(String told, SpoonWords x, int... members) {
        due(told + " length", x.ring(members[0], -1), members.length);
        for (int i = 0; i < members.length; i++) {
            due(told + " place " + i, x.ring(members[0], i), members[i]);
        }
        if (members.length < 10) {
            due(told + " not so many", x.ring(members[0], members.length), NONE);
        }
    }

    private static void ring() {
        SpoonWords x = tenLenders();
        due("19: person -1", x.ring(-1, 0), BEYOND);
        due("19: person 10", x.ring(10, 0), BEYOND);
        due("19: what -2", x.ring(0, -2), BEYOND);
        due("19: what 10", x.ring(0, 10), BEYOND);
        for (int i = 0; i < 10; i++) {
            due("19: no ring yet", x.ring(0, -1), NONE);
            x.promise(i, (i + 1) % 10, 5, 9, 1 << i);
        }
        isRing("19: of all", x, 0, 1, 2, 3, 4, 5, 6, 7, 8, 9);
        isRing("19: of all from 7", x, 7, 8, 9, 0, 1, 2, 3, 4, 5, 6);
        x.promise(1, 8, 5, 9, 1);
        isRing("19: shorter", x, 0, 1, 8, 9);
        isRing("19: without the short cut", x, 2, 3, 4, 5, 6, 7, 8, 9, 0, 1);
        x.promise(1, 6, 5, 9, 0);
        due("19: no such promise", x.count(2), 11);
        ringOfSeveral();
        ringOfTwo();
    }

    private static void ringOfSeveral() {
        SpoonWords x = tenLenders();
        int[][] owes = {{0, 5}, {0, 3}, {5, 1}, {5, 2}, {3, 9}, {3, 4}, {1, 0}, {2, 0}, {9, 0}, {4, 6}};
        for (int i = 0; i < owes.length; i++) {
            x.thing(owes[i][0], 100, 0);
        }
        int behind = 0;
        for (int[] o : owes) {
            behind = (int) x.personOf(o[0], 3) & (int) x.personOf(o[0], 2);
            x.promise(o[0], o[1], 1, 9, Integer.lowestOneBit(behind));
        }
        isRing("19: least from the second on", x, 0, 3, 9);
        isRing("19: least at the third", x, 5, 1, 0);
        due("19: one that leads nowhere", x.ring(4, -1), NONE);
    }

    private static void ringOfTwo() {
        SpoonWords x = lenders();
        x.thing(0, 10, 0);
        x.thing(1, 10, 0);
        x.promise(0, 1, 5, 0, 1);
        x.promise(1, 0, 5, 0, 2);
        isRing("19: of two", x, 0, 1);
        isRing("19: of two", x, 1, 0);
        due("19: not through it", x.ring(2, -1), NONE);
        x.keep(0);
        due("19: a kept one owes nothing", x.ring(0, -1), NONE);
    }

    private static void cancel() {
        SpoonWords x = lenders();
        for (int i = 0; i < 3; i++) {
            x.thing(i, 100, 0);
            x.thing(i, 100, 0);
        }
        due("20: person -1", x.cancel(-1), BEYOND);
        due("20: person 3", x.cancel(3), BEYOND);
        due("20: none", x.cancel(0), NONE);
        x.promise(0, 1, 10, 0, 1);
        x.promise(0, 1, 20, 0, 2);
        x.promise(1, 2, 17, 0, 4);
        x.promise(2, 0, 30, 0, 16);
        x.promise(1, 2, 100, 0, 1);
        due("20: what was taken", x.cancel(1), 30);
        due("20: not the last of its chain", x.promiseOf(0, 4), 0);
        due("20: stays with 0", x.promiseOf(0, 2), 0);
        due("20: kept", x.promiseOf(1, 4), 1);
        due("20: its thing is home", x.thingOf(1, 1), 0);
        due("20: kept too", x.promiseOf(2, 4), 1);
        due("20: sum of a kept one", x.promiseOf(2, 2), 0);
        due("20: part of a sum", x.promiseOf(4, 2), 87);
        due("20: open with the rest", x.promiseOf(4, 4), 0);
        due("20: the last pair", x.promiseOf(3, 4), 1);
        due("20: no ring any more", x.cancel(1), NONE);
        due("20: open ones", x.count(3), 2);
        due("20: no harm", x.personOf(0, 1), 0);
        cancelAlongOneChain();
        cancelPastNought();
        cancelOnes();
    }

    /** The pairs go from the one itself on, so who is asked decides what can be kept then. */
    private static void cancelAlongOneChain() {
        SpoonWords x = lenders();
        x.thing(0, 100, 0);
        x.promise(0, 1, 50, 0, 1);
        x.promise(1, 0, 50, 0, 1);
        x.image();
        due("20: from the first", x.cancel(0), 50);
        due("20: the first stays open", x.promiseOf(0, 4), 0);
        due("20: the second is kept", x.promiseOf(1, 4), 1);
        x.undo();
        due("20: from the second", x.cancel(1), 50);
        due("20: both are kept", x.count(3), 0);
    }

    /** One that is open with a sum of 0 doesn't come to 0 once more. */
    private static void cancelPastNought() {
        SpoonWords x = lenders();
        x.thing(0, 100, 0);
        x.thing(1, 100, 0);
        x.promise(0, 1, 50, 0, 1);
        x.promise(1, 0, 50, 0, 1);
        x.cancel(0);
        due("20: could be kept now", x.can(), 1);
        x.thing(0, 100, 0);
        x.promise(1, 0, 30, 0, 2);
        x.promise(0, 1, 40, 0, 4);
        due("20: past it", x.cancel(0), 30);
        due("20: it stays as it is", x.promiseOf(0, 4), 0);
        due("20: the next one gave", x.promiseOf(3, 2), 10);
    }

    private static void cancelOnes() {
        SpoonWords x = lenders();
        x.thing(0, 1, 0);
        x.thing(0, 5, 0);
        x.thing(1, 5, 0);
        x.promise(0, 1, 1, 0, 1);
        x.promise(0, 1, 5, 0, 2);
        x.promise(1, 0, 2, 0, 4);
        due("20: two", x.cancel(1), 2);
        due("20: one of the first", x.promiseOf(0, 4), 1);
        due("20: one of the next", x.promiseOf(1, 2), 4);
        due("20: both of the other", x.promiseOf(2, 4), 1);
        x = lenders();
        x.thing(0, 100, 0);
        x.promise(0, 1, 50, 0, 1);
        x.promise(1, 0, 50, 0, 1);
        x.promise(0, 2, 50, 0, 1);
        x.cancel(0);
        due("19: a sum of 0 owes nothing", x.ring(0, -1), NONE);
        due("20: both are open still", x.count(3), 3);
    }

    private static void fewest() {
        SpoonWords x = people(2, 2, 5);
        int[] bases = {10, 30, 20, 30, 5};
        for (int base : bases) {
            x.thing(0, base, 0);
        }
        due("21: one, the least set", x.fewest(0, 1, 30), 2);
        due("21: two, the least set", x.fewest(0, 1, 40), 3);
        due("21: two", x.fewest(0, 1, 50), 6);
        due("21: the two largest", x.fewest(0, 1, 60), 10);
        due("21: three", x.fewest(0, 1, 61), 11);
        due("21: all", x.fewest(0, 1, 95), 31);
        due("21: more than all", x.fewest(0, 1, 96), NONE);
        due("21: for a keeper", x.fewest(0, 2, 14), 2);
        due("21: none held", x.fewest(1, 0, 1), NONE);
        due("21: from -1", x.fewest(-1, 1, 1), BEYOND);
        due("21: from 3", x.fewest(3, 1, 1), BEYOND);
        due("21: to -1", x.fewest(0, -1, 1), BEYOND);
        due("21: to 3", x.fewest(0, 3, 1), BEYOND);
        due("21: the same", x.fewest(0, 0, 1), BEYOND);
        due("21: sum 0", x.fewest(0, 1, 0), BEYOND);
        due("21: sum 10000", x.fewest(0, 1, 10000), BEYOND);
        x.steal(1);
        due("21: without a stolen one", x.fewest(0, 1, 30), 8);
        x.rule(0, 0);
        x.promise(0, 1, 30, 0, 8);
        due("21: without one that is given", x.fewest(0, 1, 30), 5);
        due("21: one that may not be passed on", x.fewest(1, 0, 1), NONE);
        x.rule(0, 1);
        due("21: one that may", x.fewest(1, 0, 30), 8);
        for (int i = 0; i < 7; i++) {
            x.thing(0, 0, 0);
        }
        due("21: ten", x.fewest(0, 1, 35), 21);
        due("21: ten don't", x.fewest(0, 1, 36), NONE);
        x.thing(0, 0, 0);
        due("21: eleven", x.fewest(0, 1, 35), SIZE);
        due("21: size ahead of none", x.fewest(0, 1, 36), SIZE);
        due("21: beyond ahead of size", x.fewest(0, 1, 0), BEYOND);
        fewestWithoutRoom();
    }

    /** Which things could be put behind a promise doesn't hang on how many promises there are. */
    private static void fewestWithoutRoom() {
        SpoonWords x = lenders();
        x.thing(0, 10, 0);
        for (int i = 0; i < 24; i++) {
            x.promise(0, 1, 10, 0, 1);
            x.keep(i);
        }
        due("21: no 25th", x.promise(0, 1, 10, 0, 1), FULL);
        due("21: but the set", x.fewest(0, 1, 10), 1);
        due("22: and the most", x.most(0, 1), 10);
    }

    private static void most() {
        SpoonWords x = people(2, 2, 0);
        x.thing(0, 40, 0);
        x.thing(0, 60, 0);
        x.thing(1, 10, 0);
        due("22: both", x.most(0, 1), 100);
        due("22: for a person", x.most(0, 2), 65);
        due("22: none", x.most(2, 0), 0);
        x.promise(0, 1, 40, 0, 1);
        due("22: less one", x.most(0, 1), 60);
        due("22: may be passed on", x.most(1, 0), 50);
        x.rule(0, 0);
        due("22: may not", x.most(1, 0), 10);
        x.steal(1);
        due("22: stolen", x.most(0, 1), 0);
        due("22: from -1", x.most(-1, 1), BEYOND);
        due("22: from 3", x.most(3, 1), BEYOND);
        due("22: to -1", x.most(0, -1), BEYOND);
        due("22: to 3", x.most(0, 3), BEYOND);
        due("22: the same", x.most(2, 2), BEYOND);
        for (int i = 0; i < 13; i++) {
            x.thing(2, 1, 0);
        }
        due("22: more than ten", x.most(2, 0), 13);
    }

    private static void look() {
        SpoonWords x = lenders();
        x.thing(0, 40, 0);
        x.thing(0, 50, 0);
        x.promise(0, 1, 60, 0, 3);
        x.promise(1, 2, 40, 0, 1);
        x.promise(2, 0, 40, 0, 1);
        due("23: harm of both", x.look(0, 0), 90);
        due("23: harm of one", x.look(2, 0), 40);
        due("23: none behind it has less", x.look(0, 1), 0);
        due("23: the one ahead", x.look(1, 1), 1);
        due("23: both ahead", x.look(2, 1), 2);
        due("23: nothing changes", x.promiseOf(2, 4), 0);
        due("23: nor any harm", x.personOf(0, 1), 0);
        due("23: nor a chain", x.thingOf(0, 4), 3);
        x.base(0, 30);
        due("23: not those that have too little now", x.look(2, 1), 1);
        due("23: harm by what it is now", x.look(2, 0), 30);
        due("23: promise -1", x.look(-1, 0), BEYOND);
        due("23: promise 3", x.look(3, 0), BEYOND);
        due("23: what -1", x.look(0, -1), BEYOND);
        due("23: what 2", x.look(0, 2), BEYOND);
        x.keep(2);
        due("23: kept", x.look(2, 0), STATE);
        due("23: beyond ahead of state", x.look(2, 2), BEYOND);
        x.breaks(1);
        due("23: broken", x.look(1, 1), STATE);
    }

    private static void worst() {
        SpoonWords x = lenders();
        due("24: none", x.worst(), NONE);
        x.thing(0, 40, 0);
        x.thing(0, 50, 0);
        x.thing(0, 40, 0);
        x.promise(0, 1, 40, 0, 1);
        x.promise(0, 1, 40, 0, 4);
        due("24: of two the least", x.worst(), 0);
        x.promise(0, 1, 50, 0, 2);
        due("24: the one with most", x.worst(), 2);
        x.promise(1, 2, 80, 0, 5);
        due("24: of two things", x.worst(), 3);
        x.breaks(3);
        due("24: not a broken one", x.worst(), 2);
        x.keep(2);
        due("24: without harm the least", x.worst(), 0);
        x.keep(0);
        due("24: the next", x.worst(), 1);
        x.keep(1);
        due("24: none is open", x.worst(), NONE);
    }

    private static void night() {
        SpoonWords x = lenders();
        x.thing(0, 40, 0);
        x.thing(0, 50, 0);
        x.thing(1, 60, 0);
        due("25: none kept", x.night(0), 0);
        due("25: no rounds", x.night(1), 0);
        due("25: all home", x.night(2), 3);
        x.promise(0, 1, 90, 0, 3);
        x.promise(1, 2, 40, 0, 1);
        x.promise(1, 2, 60, 0, 4);
        due("25: all kept", x.night(0), 3);
        due("25: rounds", x.night(1), 2);
        due("25: home", x.night(2), 3);
        due("25: nothing changes", x.count(3), 3);
        due("25: nor a holder", x.thingOf(0, 1), 2);
        x.steal(1);
        due("25: a stolen one isn't home", x.night(2), 2);
        x.breaks(0);
        due("25: the rest", x.night(0), 2);
        due("25: in one round", x.night(1), 1);
        due("25: with new owners", x.night(2), 2);
        due("25: what -1", x.night(-1), BEYOND);
        due("25: what 3", x.night(3), BEYOND);
        longNight();
    }

    /** Chains of six that share one promise with the next chain: each promise waits for the one with the next number. */
    private static void longNight() {
        SpoonWords x = people(2, 2);
        x.rule(0, 5);
        int things = 1;
        x.thing(0, 1, 0);
        for (int i = 0; i < 24; i++) {
            int from = i % 2;
            int set = 1 << (things - 1);
            if (i % 5 == 0 && i > 0) {
                x.thing(from, 1, 0);
                set |= 1 << things;
                things++;
            }
            due("25: promise " + i, x.promise(from, 1 - from, 1, 0, set), i);
        }
        due("25: only the last can be", x.can(), 1 << 23);
        due("25: as many kept as can be promised", x.night(0), 24);
        due("25: one in each round", x.night(1), 24);
        due("25: all home behind them", x.night(2), 5);
    }

    private static void least() {
        SpoonWords x = people(0, 1, 2, 3, 4, 5);
        x.thing(0, 40, 0);
        x.thing(0, 60, 0);
        x.thing(0, 7, 0);
        due("26: a person", x.least(3, 0, 65), 65);
        due("26: each is cut", x.least(7, 0, 2), 3);
        due("26: whole", x.least(3, 0, 100), 100);
        due("26: more than that", x.least(3, 0, 101), NONE);
        due("26: a hoarder", x.least(1, 1, 10), 50);
        due("26: a lender", x.least(3, 2, 100), 0);
        due("26: a lender has no more", x.least(3, 2, 101), NONE);
        due("26: a child", x.least(3, 3, 10), 25);
        due("26: nothing above 50", x.least(2, 3, 1), NONE);
        due("26: a trader", x.least(3, 4, 110), 0);
        due("26: a keeper without any part", x.least(3, 5, 10), 0);
        due("26: a keeper", x.least(1, 5, 6), 5);
        due("26: nothing", x.least(0, 2, 1), NONE);
        due("26: the rule stays", x.rule(1, 66), 66);
        due("26: set 8", x.least(8, 0, 1), BEYOND);
        due("26: set -1", x.least(-1, 0, 1), BEYOND);
        due("26: person -1", x.least(1, -1, 1), BEYOND);
        due("26: person 6", x.least(1, 6, 1), BEYOND);
        due("26: sum 0", x.least(1, 0, 0), BEYOND);
        due("26: sum 10000", x.least(1, 0, 10000), BEYOND);
        x.steal(0);
        due("26: a stolen one", x.least(1, 2, 1), NONE);
    }

    private static void bare() {
        SpoonWords x = lenders();
        x.thing(0, 40, 0);
        x.thing(0, 50, 5);
        due("27: none", x.bare(), 0);
        x.promise(0, 1, 40, 9, 1);
        x.promise(0, 1, 45, 9, 2);
        due("27: all covered", x.bare(), 0);
        x.days(1);
        due("27: just covered", x.bare(), 0);
        x.days(1);
        due("27: rotted", x.bare(), 2);
        x.steal(0);
        due("27: stolen", x.bare(), 3);
        x.keep(0);
        due("27: kept", x.bare(), 2);
        x.breaks(1);
        due("27: broken", x.bare(), 0);
    }

    // ---- the text

    private static void feed() {
        SpoonWords x = new SpoonWords();
        due("28: n 0", x.feed(1, 0), BEYOND);
        due("28: n -1", x.feed(1, -1), BEYOND);
        due("28: n 5", x.feed(1, 5), BEYOND);
        due("28: four", x.feed(('c' << 24) + ('h' << 16) + ('i' << 8) + 'l', 4), 4);
        due("28: the lowest alone", x.feed(-256 + 'd', 1), 5);
        due("28: two", x.feed((77 << 16) + (';' << 8) + 'p', 2), 7);
        due("28: three", x.feed(('a' << 16) + ('r' << 8) + 't', 3), 10);
        due("28: a blank and a digit", x.feed((' ' << 8) + '7', 2), 12);
        due("28: read", x.town(), 2);
        due("28: kind", x.personOf(0, 0), 3);
        due("28: part", x.rule(1, 0), 7);
        for (int i = 1; i <= 24; i++) {
            due("28: bytes", x.feed(-1, 4), 4 * i);
        }
        due("28: 98", x.feed(0, 2), 98);
        due("28: no room for three", x.feed(0, 3), FULL);
        due("28: beyond ahead of full", x.feed(0, 5), BEYOND);
        due("28: 100", x.feed(0, 2), 100);
        due("28: full", x.feed(0, 1), FULL);
        due("28: so many", x.count(5), 100);
    }

    private static void wipe() {
        SpoonWords x = new SpoonWords();
        due("29: empty", x.wipe(), 0);
        x.feed(0x706572, 3);
        due("29: three", x.wipe(), 3);
        due("29: empty again", x.wipe(), 0);
        due("29: nothing is left of it", tell(x, "person"), 1);
    }

    private static void town() {
        SpoonWords x = new SpoonWords();
        due("30: kinds", tell(x, "person;hoarder;lender;child;trader;keeper"), 6);
        for (int i = 0; i < 6; i++) {
            due("30: kind " + i, x.personOf(i, 0), i);
        }
        due("30: empty then", x.count(5), 0);
        due("30: things", tell(x, "thing 5 9999 ; thing 0 0 rot 99;thing2 7rot3"), 3);
        due("30: owner", x.thingOf(0, 0), 5);
        due("30: holder", x.thingOf(0, 1), 5);
        due("30: base", x.thingOf(0, 2), 9999);
        due("30: no rot", x.thingOf(0, 3), 0);
        due("30: rot", x.thingOf(1, 3), 99);
        due("30: without blanks", x.thingOf(2, 3), 3);
        due("30: rules", tell(x, " pass 5;part 100;  part 0 "), 3);
        due("30: pass", x.rule(0, 1), 5);
        due("30: the last part", x.rule(1, 66), 0);
        due("30: an owner who is there by then", tell(x, "child;thing 6 0004"), 2);
        due("30: many noughts", tell(x, "thing 0000006 000000009999 rot 00099"), 1);
        due("30: come to what there is", x.count(0), 7);
        due("30: no findings", x.status(-1), 0);
        x = people(0);
        due("30: its own place", tell(x, "person;person;person;person;person;person;person;person;person;person"), -1 - 63);
        due("30: nothing came", x.count(0), 1);
        due("30: empty all the same", x.count(5), 0);
        due("30: as many as there may be", tell(x, "person;person;person;person;person;person;person;person;person"), 9);
        for (int i = 0; i < 16; i++) {
            due("30: thing " + i, tell(x, "thing 9 1"), 1);
        }
        due("30: a 17th", tell(x, "pass 3;thing 9 1"), -1 - 7);
        due("30: pass stayed", x.rule(0, 1), 1);
        x = lenders();
        tell(x, "thing 0 10");
        x.promise(0, 1, 10, 0, 1);
        x.steal(0);
        tell(x, "person");
        due("30: the rest stays", x.chain(0, 0), 0);
        due("30: harm stays", x.personOf(1, 1), 10);
    }

    private static void townFaults() {
        Object[][] faults = {
            {"", 0}, {"   ", 3}, {";", 0}, {"person;", 7}, {"person; ", 8}, {"person;;", 7}, {"7", 0},
            {"persons", 0}, {"perso", 0}, {"personperson", 0}, {"Person", 0}, {"person thing", 7}, {"person 1", 7},
            {"thing", 5}, {"thing ", 6}, {"thing 0", 7}, {"thing 0 ", 8}, {"thing 2 5", 6}, {"thing 0 10000", 8},
            {"thing 0 99999999999999999999", 8}, {"thing 0;", 7}, {"thing person", 6}, {"thing 0 5 rot", 13},
            {"thing 0 5 rot 100", 14}, {"thing 0 5 rot;", 13}, {"thing 0 5 rot 1 2", 16}, {"thing 0 5 6", 10},
            {"thing 0 5 person", 10}, {"thing 0 5 rots 1", 10}, {"thing 0 5 rot 1 rot 1", 16}, {"rot 1", 0},
            {"pass", 4}, {"pass 6", 5}, {"pass;", 4}, {"pass part", 5}, {"pass 1 1", 7}, {"part 101", 5}, {"part", 4},
            {"part 1 rot 1", 7}, {"person,person", 6}, {"person\tperson", 6}, {"person\n", 6}, {"person;-1", 7},
            {"thing -1 5", 6}, {"thing 0 5;thing 0 5;oops", 20}, {"child;thing 3 1;thing 2 1", 12}, {"\u00e9", 0},
            {"xerson", 0}, {"xhing 0 5", 0}, {"personz", 0}, {"persona", 0}, {"person{", 6}, {"person`", 6}, {"part 5:", 6}, {"part 5/", 6},
            {"person;" + (char) 255, 7}, {"per son", 0}, {"part 5 0", 7}, {"thing 0 5 rot 4294967296", 14},
        };
        for (Object[] fault : faults) {
            SpoonWords x = people(0, 0);
            String told = "30: \"" + fault[0] + "\"";
            due(told, tell(x, (String) fault[0]), -1 - (Integer) fault[1]);
            due(told + " people", x.count(0), 2);
            due(told + " things", x.count(1), 0);
            due(told + " tape", x.count(5), 0);
            due(told + " no finding", x.status(-1), 0);
            due(told + " pass", x.rule(0, 1), 1);
            due(told + " part", x.rule(1, 66), 66);
        }
    }

    // ---- sheets

    private static void sheet() {
        SpoonWords x = new SpoonWords();
        due("31: sheet -1", x.sheet(-1, 8, 1), BEYOND);
        due("31: sheet 4", x.sheet(4, 8, 1), BEYOND);
        for (int bits : new int[] {-1, 1, 7, 9, 15, 32, 63, 65, LOW}) {
            due("31: bits " + bits, x.sheet(0, bits, 1), BEYOND);
        }
        due("31: n -1", x.sheet(0, 8, -1), SIZE);
        due("31: n -1 with bits 0", x.sheet(0, 0, -1), SIZE);
        due("31: n 41", x.sheet(0, 64, 41), BEYOND);
        due("31: n 41 with bits 0", x.sheet(0, 0, 41), BEYOND);
        due("31: beyond ahead of size", x.sheet(0, 9, -1), BEYOND);
        due("31: missing still", x.write(0, 0, 0), MISSING);
        due("31: 40", x.sheet(0, 8, 40), 40);
        due("31: 16 bits", x.sheet(1, 16, 1), 1);
        due("31: 64 bits", x.sheet(3, 64, 2), 2);
        x.write(3, 1, 5);
        due("31: a new one", x.sheet(3, 64, 2), 2);
        due("31: all 0", x.write(3, 1, 0), 0);
        due("31: none of it", x.sheet(3, 16, 0), 0);
        due("31: but not missing", x.read(3), 0);
        due("31: missing", x.sheet(0, 0, 40), 0);
        due("31: it is", x.read(0), MISSING);
        due("31: a missing one again", x.sheet(2, 0, 0), 0);
    }

    private static void write() {
        SpoonWords x = new SpoonWords();
        due("32: sheet -1", x.write(-1, 0, 1), BEYOND);
        due("32: sheet 4", x.write(4, 0, 1), BEYOND);
        due("32: missing", x.write(0, -1, 1), MISSING);
        x.sheet(0, 8, 2);
        x.sheet(1, 16, 2);
        x.sheet(2, 64, 2);
        due("32: number -1", x.write(0, -1, 1), BEYOND);
        due("32: number 2", x.write(0, 2, 1), BEYOND);
        due("32: was 0", x.write(0, 0, 127), 0);
        due("32: was 127", x.write(0, 0, 256), 127);
        due("32: 8 lowest bits", x.write(0, 0, 128), 0);
        due("32: with a sign", x.write(0, 0, -1), -128);
        due("32: -1", x.write(0, 0, 0), -1);
        x.write(1, 1, 65536 + 32767);
        due("32: 16 lowest bits", x.write(1, 1, 32768), 32767);
        due("32: 16 with a sign", x.write(1, 1, 0), -32768);
        x.write(2, 1, Long.MIN_VALUE);
        due("32: 64", x.write(2, 1, -1000000001L), Long.MIN_VALUE);
        due("32: a number like a finding", x.write(2, 1, 0), -1000000001L);
        due("32: isn't counted as one", x.status(0), 4);
        due("32: the other one stays", x.write(2, 0, 0), 0);
    }

    private static void copy() {
        SpoonWords x = new SpoonWords();
        x.sheet(0, 8, 5);
        x.sheet(1, 8, 3);
        x.sheet(2, 16, 5);
        for (int i = 0; i < 5; i++) {
            x.write(0, i, i + 1);
        }
        due("33: sheet -1", x.copy(-1, 0, 3, 0, 1), BEYOND);
        due("33: to sheet 4", x.copy(3, 0, 4, 0, 1), BEYOND);
        due("33: missing from", x.copy(3, -1, 0, 0, 1), MISSING);
        due("33: missing to", x.copy(0, 0, 3, -1, 1), MISSING);
        due("33: other bits", x.copy(0, -1, 2, 0, 1), KIND);
        due("33: from -1", x.copy(0, -1, 1, 0, 1), BEYOND);
        due("33: to -1", x.copy(0, 0, 1, -1, 1), BEYOND);
        due("33: n -1", x.copy(0, 0, 1, 0, -1), BEYOND);
        due("33: not so many from", x.copy(0, 4, 1, 0, 2), BEYOND);
        due("33: not so many to", x.copy(0, 0, 1, 2, 2), BEYOND);
        due("33: far beyond", x.copy(0, HIGH, 1, 0, HIGH), BEYOND);
        due("33: far beyond to", x.copy(0, 0, 1, HIGH, 1), BEYOND);
        due("33: lowest", x.copy(0, LOW, 1, LOW, LOW), BEYOND);
        due("33: none of it", x.copy(0, 5, 1, 3, 0), 0);
        due("33: none of it, past the end", x.copy(0, 6, 1, 0, 0), BEYOND);
        due("33: three", x.copy(0, 2, 1, 0, 3), 3);
        due("33: first", x.write(1, 0, 0), 3);
        due("33: last", x.write(1, 2, 0), 5);
        due("33: onto itself, up", x.copy(0, 0, 0, 1, 4), 4);
        int[] up = {1, 1, 2, 3, 4};
        for (int i = 0; i < 5; i++) {
            due("33: as they all were, " + i, x.write(0, i, i + 1), up[i]);
        }
        due("33: onto itself, down", x.copy(0, 1, 0, 0, 4), 4);
        int[] down = {2, 3, 4, 5, 5};
        for (int i = 0; i < 5; i++) {
            due("33: down, " + i, x.write(0, i, 0), down[i]);
        }
    }

    private static void lays() {
        SpoonWords x = people(0);
        for (int i = 0; i < 5; i++) {
            x.thing(0, i + 1, 0);
        }
        due("34: sheet -1", x.lays(-1), BEYOND);
        due("34: sheet 4", x.lays(4), BEYOND);
        due("34: missing", x.lays(0), MISSING);
        x.sheet(0, 64, 7);
        long[] numbers = {9999, 10000, -1, 0, 1L << 32, 5, 5};
        for (int i = 0; i < 7; i++) {
            x.write(0, i, numbers[i]);
        }
        due("34: those that may be", x.lays(0), 2);
        int[] want = {9999, 2, 3, 0, 5};
        for (int i = 0; i < 5; i++) {
            due("34: base " + i, x.thingOf(i, 2), want[i]);
        }
        x.sheet(0, 8, 2);
        due("34: fewer than things", x.lays(0), 2);
        due("34: the others stay", x.count(6), 8);
        x.sheet(0, 8, 0);
        due("34: none", x.lays(0), 0);
    }

    private static void keeps() {
        SpoonWords x = lenders();
        due("35: sheet -1", x.keeps(-1), BEYOND);
        due("35: sheet 4", x.keeps(4), BEYOND);
        due("35: missing", x.keeps(0), MISSING);
        x.thing(0, 10, 0);
        x.promise(0, 1, 10, 0, 1);
        x.promise(1, 2, 10, 0, 1);
        x.promise(2, 0, 10, 0, 1);
        x.sheet(0, 64, 7);
        long[] numbers = {0, 2, 2, -1, 3, (1L << 32) + 1, 1};
        for (int i = 0; i < 7; i++) {
            x.write(0, i, numbers[i]);
        }
        due("35: one by one", x.keeps(0), 2);
        due("35: the first couldn't be", x.can(), 1);
        due("35: the holder", x.thingOf(0, 1), 1);
        due("35: no more findings", x.status(-1), 3);
        due("35: now it can", x.keeps(0), 1);
        due("35: none is open", x.count(3), 0);
    }

    private static void read() {
        SpoonWords x = lenders();
        due("36: sheet -1", x.read(-1), BEYOND);
        due("36: sheet 4", x.read(4), BEYOND);
        due("36: missing", x.read(1), MISSING);
        x.thing(0, 10, 0);
        x.thing(1, 10, 0);
        x.thing(2, 10, 0);
        x.sheet(1, 64, 3);
        due("36: the second isn't", x.read(1), 2);
        x.write(1, 1, 1);
        due("36: the third isn't", x.read(1), 3);
        x.write(1, 2, 2);
        due("36: all", x.read(1), 0);
        x.promise(2, 0, 10, 0, 4);
        due("36: holders, not owners", x.read(1), 3);
        x.keep(0);
        x.write(1, 0, 1L << 32);
        due("36: the whole number", x.read(1), 1);
        x.sheet(1, 8, 1);
        due("36: fewer than things", x.read(1), 0);
        x.sheet(1, 8, 4);
        x.write(1, 1, 1);
        x.write(1, 2, 2);
        due("36: one for no thing", x.read(1), 4);
        x.sheet(1, 8, 0);
        due("36: none", x.read(1), 0);
    }

    // ---- images

    private static void images() {
        SpoonWords x = lenders();
        x.thing(0, 10, 1);
        x.rule(1, 50);
        x.promise(0, 1, 10, 0, 1);
        x.feed(7, 1);
        x.sheet(0, 8, 1);
        due("38: nothing is kept", x.undo(), NONE);
        due("37: image", x.image(), 1);
        x.days(3);
        x.steal(0);
        x.base(0, 99);
        x.promise(1, 2, 99, 0, 1);
        x.person(5);
        x.thing(3, 1, 1);
        x.rule(0, 2);
        x.rule(1, 3);
        x.feed(7, 1);
        x.write(0, 0, 9);
        due("38: how many promises", x.undo(), 1);
        due("38: people", x.count(0), 3);
        due("38: things", x.count(1), 1);
        due("38: open", x.count(3), 1);
        due("38: day", x.count(4), 0);
        due("38: base", x.thingOf(0, 2), 10);
        due("38: owner", x.thingOf(0, 0), 0);
        due("38: holder", x.thingOf(0, 1), 1);
        due("38: chain", x.thingOf(0, 4), 1);
        due("38: not stolen", x.thingOf(0, 5), 0);
        due("38: harm of the owner", x.personOf(0, 1), 0);
        due("38: harm of the holder", x.personOf(1, 1), 0);
        due("38: pass", x.rule(0, 5), 5);
        due("38: part", x.rule(1, 50), 50);
        due("38: the tape not", x.count(5), 2);
        due("38: sheets not", x.write(0, 0, 0), 9);
        due("38: findings not", x.status(3), 1);
        x.keep(0);
        due("38: stays", x.undo(), 1);
        due("38: open again", x.promiseOf(0, 4), 0);
        x.keep(0);
        x.image();
        x.promise(0, 2, 10, 0, 1);
        due("38: the latest", x.undo(), 1);
        due("38: in which it is kept", x.promiseOf(0, 4), 1);
        due("39: something was", x.tear(), 1);
        due("39: nothing was", x.tear(), 0);
        due("39: nothing is kept", x.undo(), NONE);
        due("39: all stays", x.count(2), 1);
        x.promise(0, 1, 10, 0, 1);
        due("38: a thing made anew", x.image(), 1);
        x.undo();
        x.thing(1, 4, 0);
        due("38: has no chain", x.thingOf(1, 4), 0);
    }

    private static void count() {
        SpoonWords x = lenders();
        x.thing(0, 9999, 0);
        x.thing(1, 5, 0);
        x.promise(0, 1, 10, 0, 1);
        x.promise(1, 2, 10, 20, 1);
        x.days(4);
        x.feed(0, 3);
        x.steal(0);
        int[] want = {3, 2, 2, 1, 4, 3, 10004};
        for (int what = 0; what < 7; what++) {
            due("40: what " + what, x.count(what), want[what]);
        }
        due("40: -1", x.count(-1), BEYOND);
        due("40: 7", x.count(7), BEYOND);
        due("40: lowest", x.count(LOW), BEYOND);
    }

    private static void status() {
        SpoonWords x = people(0, 2);
        due("41: none yet", x.status(-1), 0);
        x.person(9);
        x.thing(0, 5, 0);
        x.as(0, 1);
        x.worst();
        x.undo();
        x.promise(1, 0, 1, 0, 1);
        x.read(0);
        x.sheet(0, 8, -1);
        x.sheet(0, 8, -1);
        x.sheet(0, 8, -1);
        for (int i = 0; i < 25; i++) {
            x.feed(0, 4);
        }
        x.feed(0, 4);
        int[] want = {1, 1, 1, 2, 1, 1, 3};
        for (int which = 0; which < 7; which++) {
            due("41: which " + which, x.status(which), want[which]);
        }
        due("41: all", x.status(-1), 10);
        due("41: -2", x.status(-2), BEYOND);
        due("41: 7", x.status(7), BEYOND);
        due("41: counted from then on", x.status(0), 3);
        x.image();
        x.count(7);
        x.undo();
        due("41: undo takes none back", x.status(0), 4);
        x.personOf(9, 0);
        x.look(9, 0);
        x.write(9, 0, 0);
        due("41: in longs too", x.status(0), 7);
        due("41: all of them", x.status(-1), 16);
    }
}
