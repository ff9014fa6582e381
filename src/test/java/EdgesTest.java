import java.io.IOException;
import java.nio.file.Files;
import java.nio.file.Path;
import java.util.Arrays;
import java.util.BitSet;
import java.util.regex.Matcher;
import java.util.regex.Pattern;
import java.util.stream.IntStream;

/**
 * Each sentence of the document that names a boundary case, in its own words, and calls that would answer otherwise if
 * it were broken. A quote that the document doesn't have is a fault, and so is a boundary in it that no quote tells.
 */
public final class EdgesTest {
    private static final int BEYOND = -1000000001;
    private static final int FULL = -1000000002;
    private static final int KIND = -1000000003;
    private static final int NONE = -1000000004;
    private static final int STATE = -1000000005;
    private static final int MISSING = -1000000006;
    private static final int SIZE = -1000000007;
    private static final int LOW = Integer.MIN_VALUE;
    private static final int HIGH = Integer.MAX_VALUE;

    private static final Path DOCUMENT = Path.of("../shared/DOC.md");
    private static final int TERMS = 0;
    private static final int PROMISES = 41;
    /** Words by which the document names a boundary, or a call that is refused. */
    private static final Pattern BOUNDARY = Pattern.compile("\\b(BEYOND|FULL|NONE|STATE|MISSING|SIZE)\\b|KIND:|FAULT:|\\d to \\d"
        + "|at most|at least|at first|\\babove\\b|\\bbelow\\b|no more|or more|too early|earlier|nothing|is empty|left out"
        + "|\\balso\\b|\\bnot\\b|n't\\b|without|\\belse\\b|-1\\b|none|No ");

    private static final String[] SECTIONS = new String[PROMISES + 1];
    private static final BitSet[] QUOTED = new BitSet[PROMISES + 1];
    private static String saying = "";
    private static int answers = 1;
    private static int sayings = 0;
    private static int asked = 0;
    private static int wrong = 0;

    // ---- quotes and what they are held to

    private static void fault(String told) {
        wrong++;
        System.out.println(told);
    }

    private static void due(String call, long got, long want) {
        asked++;
        answers++;
        if (got != want) {
            fault(saying + ": " + call + " answered " + got + ", due is " + want);
        }
    }

    /** The calls that follow, up to the next quote, stand for these words of a promise (0: of the Terms). */
    private static void says(int promise, String words) {
        endSaying();
        sayings++;
        saying = (promise == TERMS ? "Terms" : "Promise " + promise) + " \"" + words + "\"";
        answers = 0;
        int place = SECTIONS[promise].indexOf(words);
        if (place < 0 || SECTIONS[promise].indexOf(words, place + 1) >= 0) {
            fault(saying + " isn't there just once");
            return;
        }
        QUOTED[promise].set(place, place + words.length());
    }

    private static void endSaying() {
        if (answers == 0) {
            fault(saying + " has no test");
        }
    }

    private static void readDocument() throws IOException {
        String document = Files.readString(DOCUMENT);
        SECTIONS[TERMS] = section(document, "\n## Terms\n");
        for (int i = 1; i <= PROMISES; i++) {
            SECTIONS[i] = section(document, "\n## Promise " + i + ": ");
        }
        for (int i = 0; i <= PROMISES; i++) {
            QUOTED[i] = new BitSet();
        }
    }

    private static String section(String document, String head) {
        int from = document.indexOf(head);
        if (from < 0) {
            fault("no section" + head);
            return "";
        }
        int to = document.indexOf("\n## ", from + 1);
        return document.substring(from + head.length(), to < 0 ? document.length() : to);
    }

    private static void allIsQuoted() {
        endSaying();
        for (int i = 0; i <= PROMISES; i++) {
            if (QUOTED[i].isEmpty()) {
                fault("nothing of promise " + i + " is quoted");
            }
            Matcher boundary = BOUNDARY.matcher(SECTIONS[i]);
            while (boundary.find()) {
                if (!QUOTED[i].get(boundary.start())) {
                    int from = Math.max(0, boundary.start() - 40);
                    int to = Math.min(SECTIONS[i].length(), boundary.end() + 40);
                    fault("promise " + i + ": no quote tells \"" + boundary.group() + "\" in .." + SECTIONS[i].substring(from, to) + "..");
                }
            }
        }
    }

    public static void main(String[] args) throws IOException {
        readDocument();
        findings();
        newObject();
        person();
        thing();
        personOf();
        thingOf();
        chain();
        counts();
        as();
        rule();
        base();
        steal();
        promise();
        promiseRefused();
        promiseOf();
        keep();
        breaks();
        days();
        can();
        owed();
        ring();
        cancel();
        fewest();
        most();
        look();
        worst();
        night();
        least();
        bare();
        feed();
        wipe();
        town();
        tokens();
        townFaults();
        sheet();
        write();
        copy();
        lays();
        keeps();
        read();
        images();
        count();
        status();
        allIsQuoted();
        System.out.println(sayings + " sentences, " + asked + " answers asked, " + wrong + " not as due");
        if (wrong != 0) {
            System.exit(1);
        }
    }

    // ---- what the tests share

    private interface Asks {
        long of(int v);
    }

    /** Numbers beside a range: next to it, and such as would come into it if they were cut or had lost their sign. */
    private static int[] beside(int low, int high) {
        return IntStream.of(low - 1, high + 1, low - 256, low + 256, low + 65536, LOW, LOW + high, HIGH)
            .filter(v -> v < low || v > high).distinct().toArray();
    }

    private static void beyond(String what, int low, int high, Asks asks) {
        for (int v : beside(low, high)) {
            due(what + " " + v, asks.of(v), BEYOND);
        }
    }

    private static SpoonWords people(int... kinds) {
        SpoonWords x = new SpoonWords();
        for (int kind : kinds) {
            x.person(kind);
        }
        return x;
    }

    /** So many lenders, for whom a thing counts its base; PASS 5. */
    private static SpoonWords lenders(int n) {
        int[] kinds = new int[n];
        Arrays.fill(kinds, 2);
        SpoonWords x = people(kinds);
        x.rule(0, 5);
        return x;
    }

    /** Two lenders, and a thing of the first that goes to and fro so often. */
    private static SpoonWords chained(int n) {
        SpoonWords x = lenders(2);
        x.thing(0, 10, 0);
        for (int i = 0; i < n; i++) {
            x.promise(i % 2, 1 - i % 2, 10, 99, 1);
        }
        return x;
    }

    /** Two lenders, a thing of the first, and as many promises as there may be, the last one open. */
    private static SpoonWords promised() {
        SpoonWords x = lenders(2);
        x.thing(0, 10, 0);
        for (int i = 0; i < 24; i++) {
            x.promise(0, 1, 10, 99, 1);
            if (i < 23) {
                x.keep(i);
            }
        }
        return x;
    }

    private static SpoonWords onDay(int day) {
        SpoonWords x = lenders(2);
        x.thing(0, 10, 0);
        for (int left = day; left > 0; left -= 50) {
            x.days(Math.min(left, 50));
        }
        return x;
    }

    private static int tell(SpoonWords x, String text) {
        for (int i = 0; i < text.length(); i++) {
            x.feed(text.charAt(i), 1);
        }
        return x.town();
    }

    private static void faultAt(int place, String text) {
        SpoonWords x = people(0, 0);
        due("\"" + text + "\"", tell(x, text), -1 - place);
        due("people behind it", x.count(0), 2);
        due("things behind it", x.count(1), 0);
        due("pass behind it", x.rule(0, 1), 1);
        due("part behind it", x.rule(1, 66), 66);
    }

    private static void row(SpoonWords x, int s, int bits, long... numbers) {
        x.sheet(s, bits, numbers.length);
        for (int i = 0; i < numbers.length; i++) {
            x.write(s, i, numbers[i]);
        }
    }

    private static void isRow(SpoonWords x, int s, long... numbers) {
        for (int i = 0; i < numbers.length; i++) {
            due("number " + i + " of sheet " + s, x.write(s, i, numbers[i]), numbers[i]);
        }
    }

    // ---- terms of all

    private static void findings() {
        says(TERMS, "FINDINGS are answers below -1000000000: -1000000001 BEYOND, -1000000002 FULL, -1000000003 KIND, -1000000004 NONE,"
            + " -1000000005 STATE, -1000000006 MISSING, -1000000007 SIZE (in longs, too).");
        SpoonWords x = people(0, 0, 0, 0, 0, 0, 0, 0, 0, 0);
        x.thing(0, 50, 0);
        x.promise(0, 1, 1, 0, 1);
        x.keep(0);
        x.steal(0);
        due("person", x.person(6), -1000000001L);
        due("an 11th", x.person(0), -1000000002L);
        due("a person as a lender", x.as(0, 2), -1000000003L);
        due("worst", x.worst(), -1000000004L);
        due("a theft twice", x.steal(0), -1000000005L);
        due("a sheet", x.read(0), -1000000006L);
        due("numbers", x.sheet(0, 8, -1), -1000000007L);
        due("a long BEYOND", x.personOf(10, 0), -1000000001L);
        due("a long STATE", x.look(0, 0), -1000000005L);
        due("a long MISSING", x.write(0, 0, 0), -1000000006L);
        says(TERMS, "Each act tells its findings in the order in which they are asked; one that answers a finding changes nothing but status().");
        due("BEYOND ahead of FULL", x.person(-1), BEYOND);
        due("so many people", x.count(0), 10);
        due("how many findings", x.status(-1), 11);
        due("status alone is none", x.status(-1), 11);
        says(TERMS, "Quotients are cut.");
        x = people(0, 1, 4);
        x.thing(0, 3, 0);
        x.thing(0, 5, 0);
        x.thing(0, 19, 0);
        due("1.98", x.counts(0, 0), 1);
        due("half of 3", x.counts(1, 1), 1);
        due("a tenth of 19", x.counts(2, 2), 20);
        says(TERMS, "Sets are told by bits.");
        for (int i = 3; i < 16; i++) {
            x.thing(i == 15 ? 1 : 0, 1, 0);
        }
        due("the 16th", x.personOf(1, 2), 32768);
        due("all others", x.personOf(0, 2), 32767);
    }

    // ---- people, things

    private static void newObject() {
        says(1, "No PEOPLE, THINGS, PROMISES; THE TAPE is empty, no image is kept.");
        SpoonWords other = chained(2);
        other.feed(0, 4);
        other.image();
        SpoonWords x = new SpoonWords();
        for (int what = 0; what <= 6; what++) {
            due("count " + what, x.count(what), 0);
        }
        due("person 0", x.personOf(0, 0), BEYOND);
        due("thing 0", x.thingOf(0, 0), BEYOND);
        due("promise 0", x.promiseOf(0, 0), BEYOND);
        due("undo", x.undo(), NONE);
        due("tear", x.tear(), 0);
        due("wipe", x.wipe(), 0);
        due("findings", x.status(-1), 4);
    }

    private static void person() {
        says(TERMS, "PEOPLE 0, 1, .. (at most 10)");
        SpoonWords x = new SpoonWords();
        for (int i = 0; i < 10; i++) {
            due("person " + i, x.person(0), i);
        }
        due("an 11th", x.person(0), FULL);
        due("so many", x.count(0), 10);
        due("the last", x.personOf(9, 0), 0);
        due("none behind it", x.personOf(10, 0), BEYOND);
        says(2, "FULL.");
        due("each kind", x.person(5), FULL);
        due("in a text", tell(x, "child"), -1);
        says(2, "BEYOND.");
        beyond("kind, ahead of FULL", 0, 5, x::person);
        SpoonWords y = new SpoonWords();
        beyond("kind", 0, 5, y::person);
        for (int kind = 0; kind <= 5; kind++) {
            due("kind " + kind, y.person(kind), kind);
        }
        due("none came of these", y.count(0), 6);
        says(TERMS, "HARM (a long; 0 at first)");
        for (int i = 0; i < 6; i++) {
            due("harm of " + i, y.personOf(i, 1), 0);
        }
        x = new SpoonWords();
        x.person(2);
        x.image();
        x.person(2);
        x.thing(1, 9, 0);
        x.steal(0);
        x.undo();
        due("a new one's number", x.person(2), 1);
        due("has none of another's harm", x.personOf(1, 1), 0);
    }

    private static void thing() {
        SpoonWords x = people(0, 0);
        says(3, "BEYOND: owner, base, rot.");
        beyond("owner", 0, 1, v -> x.thing(v, 1, 1));
        beyond("base", 0, 9999, v -> x.thing(0, v, 1));
        beyond("rot", 0, 99, v -> x.thing(0, 1, v));
        due("nobody is there", new SpoonWords().thing(0, 1, 1), BEYOND);
        due("none came", x.count(1), 0);
        says(TERMS, "a BASE (0 to 9999), ROT (0 to 99)");
        due("the least", x.thing(0, 0, 0), 0);
        due("the most", x.thing(1, 9999, 99), 1);
        due("least base", x.thingOf(0, 2), 0);
        due("least rot", x.thingOf(0, 3), 0);
        due("most base", x.thingOf(1, 2), 9999);
        due("most rot", x.thingOf(1, 3), 99);
        says(TERMS, "a HOLDER (the OWNER at first)");
        due("holder", x.thingOf(1, 1), 1);
        says(TERMS, "(none at first; at most 6)");
        due("no chain", x.thingOf(1, 4), 0);
        due("a chain of six", chained(6).thingOf(0, 4), 6);
        due("not of seven", chained(7).thingOf(0, 4), 6);
        says(TERMS, "STOLEN or not (not at first)");
        due("stolen", x.thingOf(1, 5), 0);
        says(TERMS, "THINGS 0, 1, .. (at most 16)");
        for (int i = 2; i < 16; i++) {
            due("thing " + i, x.thing(0, 1, 1), i);
        }
        due("the last one's base", x.thingOf(15, 2), 1);
        says(3, "FULL.");
        due("a 17th", x.thing(0, 1, 1), FULL);
        due("so many", x.count(1), 16);
        due("none behind it", x.thingOf(16, 0), BEYOND);
        beyond("owner, ahead of FULL", 0, 1, v -> x.thing(v, 1, 1));
        beyond("base, ahead of FULL", 0, 9999, v -> x.thing(0, v, 1));
        beyond("rot, ahead of FULL", 0, 99, v -> x.thing(0, 1, v));
        thingMadeAnew();
    }

    private static void thingMadeAnew() {
        SpoonWords x = lenders(2);
        x.image();
        x.thing(0, 10, 9);
        x.promise(0, 1, 10, 0, 1);
        x.steal(0);
        x.undo();
        says(3, "A new THING: its number.");
        due("in place of another", x.thing(0, 5, 0), 0);
        int[] want = {0, 0, 5, 0, 0, 0};
        for (int what = 0; what < 6; what++) {
            due("what " + what, x.thingOf(0, what), want[what]);
        }
    }

    private static void personOf() {
        SpoonWords x = people(5, 0);
        says(4, "BEYOND.");
        beyond("person", 0, 1, v -> x.personOf(v, 0));
        beyond("what", 0, 4, v -> x.personOf(0, v));
        due("nobody is there", new SpoonWords().personOf(0, 0), BEYOND);
        says(4, "what 0 KIND, 1 HARM, 2 the THINGS that it owns, 3 that it holds, as sets, 4 BASE of all that it holds.");
        due("owns none", x.personOf(1, 2), 0);
        due("holds none", x.personOf(1, 3), 0);
        due("base of none", x.personOf(1, 4), 0);
        for (int i = 0; i < 16; i++) {
            x.thing(1, 9999, 0);
        }
        due("owns all", x.personOf(1, 2), 65535);
        due("holds all", x.personOf(1, 3), 65535);
        due("base of all", x.personOf(1, 4), 159984);
        due("the other holds none", x.personOf(0, 3), 0);
        due("kind", x.personOf(0, 0), 5);
    }

    private static void thingOf() {
        SpoonWords x = people(0);
        says(5, "BEYOND.");
        due("no thing is there", x.thingOf(0, 0), BEYOND);
        x.thing(0, 1, 1);
        x.thing(0, 1, 1);
        beyond("thing", 0, 1, v -> x.thingOf(v, 0));
        beyond("what", 0, 5, v -> x.thingOf(0, v));
        says(5, "5 1 if it is STOLEN, else 0.");
        x.steal(1);
        due("stolen", x.thingOf(1, 5), 1);
        due("not stolen", x.thingOf(0, 5), 0);
    }

    private static void chain() {
        SpoonWords x = chained(6);
        says(6, "BEYOND: thing, i (0 to 5).");
        beyond("thing", 0, 0, v -> x.chain(v, 0));
        beyond("i", 0, 5, v -> x.chain(0, v));
        due("the first", x.chain(0, 0), 0);
        due("the last", x.chain(0, 5), 5);
        says(6, "NONE.");
        x.keep(5);
        due("came off", x.chain(0, 5), NONE);
        due("the last now", x.chain(0, 4), 4);
        due("BEYOND ahead of it", x.chain(0, 6), BEYOND);
        due("an empty one", chained(0).chain(0, 0), NONE);
        due("the end of an empty one", chained(0).chain(0, 5), NONE);
        due("behind the first", chained(1).chain(0, 1), NONE);
    }

    private static void counts() {
        SpoonWords x = people(0, 1, 2, 3, 4, 5);
        int[] bases = {0, 1, 50, 51, 9999};
        for (int base : bases) {
            x.thing(0, base, 0);
        }
        says(7, "BEYOND.");
        beyond("thing", 0, 4, v -> x.counts(v, 0));
        beyond("person", 0, 5, v -> x.counts(0, v));
        says(TERMS, "but 0 if BASE is above 50");
        due("50", x.counts(2, 3), 33);
        due("51", x.counts(3, 3), 0);
        due("9999", x.counts(4, 3), 0);
        says(TERMS, "and 5 if BASE is above 0");
        due("0 for a keeper", x.counts(0, 5), 0);
        due("1 for a keeper", x.counts(1, 5), 5);
        says(TERMS, "BASE times PART by 100");
        due("as at first", x.counts(4, 0), 6599);
        x.rule(1, 100);
        due("all of it", x.counts(4, 0), 9999);
        due("half of all of it", x.counts(4, 1), 4999);
        due("a child's 50", x.counts(2, 3), 50);
        x.rule(1, 0);
        due("none of it", x.counts(4, 0), 0);
        due("a lender's", x.counts(4, 2), 9999);
        due("a trader's", x.counts(4, 4), 10998);
        due("a keeper's", x.counts(4, 5), 5);
        says(TERMS, "STOLEN: 0.");
        x.rule(1, 100);
        x.steal(1);
        x.steal(4);
        for (int person = 0; person < 6; person++) {
            due("stolen for kind " + person, x.counts(4, person), 0);
            due("a small one for kind " + person, x.counts(1, person), 0);
        }
    }

    private static void as() {
        SpoonWords x = people(0, 1, 2, 3, 4, 5);
        says(8, "BEYOND: no such one, kind.");
        beyond("person", 0, 5, v -> x.as(v, 0));
        beyond("kind", 0, 5, v -> x.as(0, v));
        due("kind, ahead of KIND", x.as(0, 6), BEYOND);
        due("nobody is there", new SpoonWords().as(0, 0), BEYOND);
        says(8, "KIND: it isn't of that kind, nor of one under it.");
        due("under it by two", x.as(5, 0), 0);
        due("a person isn't a keeper", x.as(0, 5), KIND);
        due("a hoarder isn't a keeper", x.as(1, 5), KIND);
        due("a lender isn't a trader", x.as(2, 4), KIND);
        due("a trader isn't a hoarder", x.as(4, 1), KIND);
        due("a keeper isn't a lender", x.as(5, 2), KIND);
        due("a child isn't a lender", x.as(3, 2), KIND);
        says(8, "what all THINGS COUNT for it.");
        for (int i = 0; i < 16; i++) {
            x.thing(0, 9999, 0);
        }
        due("all of the most", x.as(4, 2), 16 * 10998);
        due("as what it is", x.as(5, 1), 16 * 3304);
    }

    private static void rule() {
        SpoonWords x = new SpoonWords();
        says(TERMS, "PASS (what 0; 0 to 5, 1 at first), PART (1; 0 to 100 hundredths, 66).");
        due("pass at first, and the most", x.rule(0, 5), 1);
        due("and the least", x.rule(0, 0), 5);
        due("part at first, and the most", x.rule(1, 100), 66);
        due("and the least", x.rule(1, 0), 100);
        says(9, "BEYOND.");
        beyond("what", 0, 1, v -> x.rule(v, 1));
        beyond("pass", 0, 5, v -> x.rule(0, v));
        beyond("part", 0, 100, v -> x.rule(1, v));
        due("pass stayed", x.rule(0, 0), 0);
        due("part stayed", x.rule(1, 0), 0);
    }

    private static void base() {
        SpoonWords x = people(0);
        says(10, "BEYOND.");
        due("no thing is there", x.base(0, 1), BEYOND);
        x.thing(0, 7, 0);
        beyond("thing", 0, 0, v -> x.base(v, 1));
        beyond("base", 0, 9999, v -> x.base(0, v));
        due("stayed, and the most", x.base(0, 9999), 7);
        due("the least", x.base(0, 0), 9999);
        due("it is", x.thingOf(0, 2), 0);
    }

    private static void steal() {
        SpoonWords x = chained(1);
        says(11, "BEYOND.");
        beyond("thing", 0, 0, x::steal);
        due("no thing is there", people(0).steal(0), BEYOND);
        says(11, "STATE: it is.");
        due("its holder", x.steal(0), 1);
        due("it is", x.steal(0), STATE);
        due("harm, once", x.personOf(1, 1), 10);
        due("the owner's", x.personOf(0, 1), 0);
        says(TERMS, "it stays in its CHAIN, but COUNTS nothing.");
        due("in its chain", x.chain(0, 0), 0);
        due("cover", x.promiseOf(0, 5), 0);
        says(TERMS, "To KEEP by which it would come back brings it back STOLEN as it is.");
        due("keep", x.keep(0), 1);
        due("holder", x.thingOf(0, 1), 0);
        due("stolen", x.thingOf(0, 5), 1);
        due("no more harm", x.personOf(0, 1), 0);
        due("still", x.steal(0), STATE);
    }

    // ---- promises

    private static void promise() {
        SpoonWords x = lenders(3);
        x.thing(0, 9999, 0);
        x.thing(0, 1, 0);
        says(TERMS, "of a SUM (1 to 9999), DUE on a DAY; OPEN (at first)");
        due("the most", x.promise(0, 1, 9999, 0, 1), 0);
        due("the least", x.promise(0, 1, 1, 0, 2), 1);
        due("open", x.promiseOf(0, 4), 0);
        due("most sum", x.promiseOf(0, 2), 9999);
        due("least sum", x.promiseOf(1, 2), 1);
        says(12, "DUE so many days from now (0 to 99)");
        x.days(7);
        due("none went with it", x.count(3), 0);
        due("today", x.promise(1, 0, 1, 0, 1), 2);
        due("in 99", x.promise(1, 2, 1, 99, 2), 3);
        due("today", x.promiseOf(2, 3), 7);
        due("the 99th", x.promiseOf(3, 3), 106);
        says(TERMS, "PROMISES 0, 1, .. (at most 24)");
        due("so many", promised().count(2), 24);
        due("the last", promised().promiseOf(23, 4), 0);
        says(TERMS, "the CHAIN of each has no more than PASS PROMISES");
        for (int pass = 0; pass <= 5; pass++) {
            SpoonWords y = chained(pass);
            y.rule(0, pass);
            due("as many as pass " + pass, y.promise(pass % 2, 1 - pass % 2, 10, 0, 1), pass);
            due("one more", y.promise(1 - pass % 2, pass % 2, 10, 0, 1), KIND);
        }
        says(TERMS, "what all COUNT for TO is SUM or more");
        x = people(2, 5);
        x.thing(0, 40, 0);
        x.thing(0, 41, 0);
        due("one too little", x.promise(0, 1, 37, 0, 3), SIZE);
        due("just so much", x.promise(0, 1, 36, 0, 3), 0);
    }

    private static void promiseRefused() {
        SpoonWords x = lenders(3);
        x.thing(0, 40, 0);
        x.thing(0, 30, 0);
        x.thing(1, 20, 0);
        says(12, "BEYOND: PEOPLE (also one and the same), sum, due, set (a THING that there isn't).");
        beyond("from", 0, 2, v -> x.promise(v, 1, 1, 0, 1));
        beyond("to", 0, 2, v -> x.promise(0, v, 1, 0, 1));
        due("one and the same", x.promise(0, 0, 1, 0, 1), BEYOND);
        beyond("sum", 1, 9999, v -> x.promise(0, 1, v, 0, 1));
        beyond("due", 0, 99, v -> x.promise(0, 1, 1, v, 1));
        for (int i = 3; i < 32; i++) {
            due("thing " + i, x.promise(0, 1, 1, 0, 1 | 1 << i), BEYOND);
        }
        due("none of it came", x.count(2), 0);
        says(12, "STATE: FROM doesn't hold one, or it is STOLEN.");
        due("the first of two isn't its", x.promise(1, 0, 1, 0, 5), STATE);
        due("the last of two isn't its", x.promise(0, 1, 1, 0, 5), STATE);
        due("none is its", x.promise(2, 1, 1, 0, 1), STATE);
        x.steal(1);
        due("one of two is stolen", x.promise(0, 1, 1, 0, 3), STATE);
        says(TERMS, "FROM must be HOLDER of each of these, which isn't STOLEN");
        due("the other one", x.promise(0, 1, 40, 0, 1), 0);
        due("the owner holds it no more", x.promise(0, 2, 1, 0, 1), STATE);
        due("the holder does", x.promise(1, 2, 60, 0, 5), 1);
        says(12, "KIND: a CHAIN has more than PASS, or 6.");
        x.rule(0, 1);
        due("one of two has", x.promise(2, 0, 1, 0, 5), KIND);
        due("the other hasn't", x.promise(2, 0, 1, 0, 4), 2);
        due("6", chained(6).promise(0, 1, 10, 0, 1), KIND);
        due("5", chained(5).promise(1, 0, 10, 0, 1), 5);
        says(12, "SIZE: they COUNT too little.");
        SpoonWords y = chained(0);
        due("by one", y.promise(0, 1, 11, 0, 1), SIZE);
        due("no things", y.promise(0, 1, 1, 0, 0), SIZE);
        due("just enough", y.promise(0, 1, 10, 0, 1), 0);
        says(12, "FULL.");
        SpoonWords z = promised();
        due("a 25th", z.promise(1, 0, 10, 0, 1), FULL);
        due("so many", z.count(2), 24);
        due("its holder", z.thingOf(0, 1), 1);
        due("its chain", z.thingOf(0, 4), 1);
        promiseOrder(z);
    }

    /** With as many promises as there may be, each finding comes ahead of those that are asked later. */
    private static void promiseOrder(SpoonWords z) {
        due("SIZE ahead of FULL", z.promise(1, 0, 11, 0, 1), SIZE);
        z.rule(0, 0);
        due("KIND ahead of SIZE", z.promise(1, 0, 11, 0, 1), KIND);
        due("STATE ahead of KIND", z.promise(0, 1, 11, 0, 1), STATE);
        z.steal(0);
        due("stolen, ahead of KIND", z.promise(1, 0, 11, 0, 1), STATE);
        due("people ahead of STATE", z.promise(1, 1, 11, 0, 1), BEYOND);
        due("sum ahead of STATE", z.promise(0, 1, 0, 0, 1), BEYOND);
        due("due ahead of STATE", z.promise(0, 1, 11, 100, 1), BEYOND);
        due("set ahead of STATE", z.promise(0, 1, 11, 0, 3), BEYOND);
    }

    private static void promiseOf() {
        SpoonWords x = chained(2);
        says(13, "BEYOND: promise, what.");
        beyond("promise", 0, 1, v -> x.promiseOf(v, 0));
        beyond("what", 0, 6, v -> x.promiseOf(0, v));
        due("none is there", chained(0).promiseOf(0, 0), BEYOND);
        says(13, "4 0 OPEN, 1 KEPT, 2 BROKEN, 5 COVER, 6 THINGS in whose CHAIN it is, as a set.");
        due("open", x.promiseOf(1, 4), 0);
        x.keep(1);
        due("kept", x.promiseOf(1, 4), 1);
        due("cover of none", x.promiseOf(1, 5), 0);
        due("no things", x.promiseOf(1, 6), 0);
        x.breaks(0);
        due("broken", x.promiseOf(0, 4), 2);
        due("cover of none", x.promiseOf(0, 5), 0);
        due("no things", x.promiseOf(0, 6), 0);
        SpoonWords y = people(2, 4);
        for (int i = 0; i < 16; i++) {
            y.thing(0, 9999, 0);
        }
        y.promise(0, 1, 9999, 99, 65535);
        due("cover of all", y.promiseOf(0, 5), 16 * 10998);
        due("all things", y.promiseOf(0, 6), 65535);
    }

    private static void keep() {
        SpoonWords x = lenders(3);
        x.thing(0, 40, 0);
        x.thing(0, 50, 0);
        x.promise(0, 1, 90, 0, 3);
        x.promise(1, 2, 50, 0, 2);
        says(14, "BEYOND.");
        beyond("promise", 0, 1, x::keep);
        due("none is there", chained(0).keep(0), BEYOND);
        says(14, "KIND: it isn't the last of some CHAIN.");
        due("the last of one of two", x.keep(0), KIND);
        due("stays open", x.promiseOf(0, 4), 0);
        due("stays in the chain", x.thingOf(0, 4), 1);
        says(TERMS, "it must be the last in the CHAIN of each THING in whose CHAIN it is");
        due("the last of its only one", x.keep(1), 1);
        due("the last of both", x.keep(0), 2);
        says(14, "STATE: it isn't OPEN.");
        due("kept", x.keep(0), STATE);
        SpoonWords y = chained(2);
        y.breaks(1);
        due("broken", y.keep(1), STATE);
        says(14, "how many THINGS come back.");
        due("one whose things went with a break", y.keep(0), 0);
        due("kept", y.promiseOf(0, 4), 1);
        SpoonWords all = lenders(2);
        for (int i = 0; i < 16; i++) {
            all.thing(0, 1, 0);
        }
        all.promise(0, 1, 16, 0, 65535);
        due("all", all.keep(0), 16);
        due("all home", all.personOf(0, 3), 65535);
        SpoonWords last = promised();
        due("the 24th", last.keep(23), 1);
    }

    private static void breaks() {
        SpoonWords x = chained(6);
        says(15, "BEYOND.");
        beyond("promise", 0, 5, x::breaks);
        due("none is there", chained(0).breaks(0), BEYOND);
        says(15, "STATE: it isn't OPEN.");
        x.keep(5);
        due("kept", x.breaks(5), STATE);
        x.breaks(4);
        due("broken", x.breaks(4), STATE);
        due("harm, once", x.personOf(0, 1), 10);
        says(15, "how many THINGS have another OWNER than ahead of it.");
        due("one without things", x.breaks(0), 0);
        due("one that owns it already", chained(2).breaks(1), 0);
        SpoonWords all = lenders(2);
        for (int i = 0; i < 16; i++) {
            all.thing(0, 9999, 0);
        }
        all.promise(0, 1, 1, 0, 65535);
        due("all", all.breaks(0), 16);
        due("harm of all", all.personOf(0, 1), 159984);
        says(TERMS, "(what stands behind it stays; without any such one TO is HOLDER still)");
        SpoonWords y = chained(6);
        y.breaks(0);
        due("the first goes", y.thingOf(0, 4), 5);
        due("the second leads", y.chain(0, 0), 1);
        due("the sixth is the fifth", y.chain(0, 4), 5);
        due("holder", y.thingOf(0, 1), 0);
        y = chained(6);
        y.breaks(5);
        due("all go with the last", y.thingOf(0, 4), 0);
        due("holder still", y.thingOf(0, 1), 0);
        y = chained(5);
        y.breaks(4);
        due("holder still", y.thingOf(0, 1), 1);
        due("and owner", y.thingOf(0, 0), 1);
        sixthOfSixteenth();
        says(TERMS, "(Others stay as they are, perhaps with less COVER.)");
        due("those ahead are open", y.count(3), 4);
        due("without cover", y.promiseOf(3, 5), 0);
        due("with their sum", y.promiseOf(3, 2), 10);
    }

    /** The last place of the last thing's chain. */
    private static void sixthOfSixteenth() {
        SpoonWords x = chest(0, 16, 10);
        for (int i = 0; i < 6; i++) {
            x.promise(i % 2, 1 - i % 2, 10, 99, 1 << 15);
        }
        x.image();
        due("the third of the last thing", x.breaks(2), 1);
        due("three are left", x.thingOf(15, 4), 3);
        due("the sixth is the third", x.chain(15, 2), 5);
        x.undo();
        due("the sixth of the last thing", x.breaks(5), 0);
        due("none is left", x.thingOf(15, 4), 0);
        x.undo();
        due("kept", x.keep(5), 1);
        due("five are left", x.thingOf(15, 4), 5);
    }

    private static void days() {
        says(16, "n DAYS (1 to 50) go");
        SpoonWords x = chained(0);
        due("one", x.days(1), 0);
        due("fifty", x.days(50), 0);
        due("the day", x.count(4), 51);
        says(16, "BEYOND.");
        beyond("days", 1, 50, x::days);
        due("no day went", x.count(4), 51);
        says(16, "STATE: THE DAY would be above 999.");
        due("950 and 50", onDay(950).days(50), STATE);
        due("949 and 50", onDay(949).days(50), 0);
        due("999 and one", onDay(999).days(1), STATE);
        due("998 and one", onDay(998).days(1), 0);
        due("BEYOND ahead of it", onDay(999).days(51), BEYOND);
        due("as does 0", onDay(999).days(0), BEYOND);
        says(TERMS, "THE DAY is 0 at first (999 at most).");
        due("at first", new SpoonWords().count(4), 0);
        SpoonWords y = onDay(999);
        y.days(1);
        due("at most", y.count(4), 999);
        due("a promise on the last day", y.promise(0, 1, 1, 99, 1), 0);
        due("which never comes", y.promiseOf(0, 3), 1098);
        says(TERMS, "each BASE is less by ROT (0 at least)");
        SpoonWords z = lenders(2);
        z.thing(0, 99, 99);
        z.thing(0, 98, 99);
        z.thing(0, 100, 99);
        z.thing(0, 0, 99);
        z.thing(0, 9999, 0);
        z.days(1);
        int[] want = {0, 0, 1, 0, 9999};
        for (int i = 0; i < 5; i++) {
            due("base " + i, z.thingOf(i, 2), want[i]);
        }
        z.days(50);
        due("all of them later", z.count(6), 9999);
        daysDue();
    }

    private static void daysDue() {
        says(TERMS, "then each OPEN PROMISE that was DUE on an earlier DAY is BROKEN, by numbers.");
        SpoonWords x = lenders(3);
        x.thing(0, 10, 4);
        x.promise(0, 1, 10, 1, 1);
        x.promise(1, 2, 10, 0, 1);
        due("of two the one that was due", x.days(1), 1);
        due("not the one that is due", x.promiseOf(0, 4), 0);
        due("broken", x.promiseOf(1, 4), 2);
        due("harm of what has rotted by then", x.personOf(0, 1), 6);
        due("the day behind it", x.days(1), 1);
        due("broken", x.promiseOf(0, 4), 2);
        due("no things were left", x.personOf(2, 1), 0);
        due("each only once", x.days(50), 0);
        SpoonWords y = chained(6);
        due("in 99 days", y.days(50) + y.days(49), 0);
        due("all six then", y.days(1), 6);
        due("their harm, one by one", y.personOf(0, 1) + y.personOf(1, 1), 60);
        SpoonWords z = chained(6);
        z.keep(5);
        z.keep(4);
        due("in many days at once", z.days(50) + z.days(50), 4);
        due("kept ones stay", z.promiseOf(5, 4), 1);
    }

    private static void can() {
        says(17, "OPEN PROMISES that can be kept, as a set.");
        due("nobody is there", new SpoonWords().can(), 0);
        due("the 24th", promised().can(), 1 << 23);
        SpoonWords x = chained(6);
        due("the last of six", x.can(), 32);
        x.breaks(5);
        due("those without things", x.can(), 31);
        SpoonWords y = chained(1);
        y.keep(0);
        due("kept", y.can(), 0);
        y.promise(0, 1, 1, 0, 1);
        y.breaks(1);
        due("broken", y.can(), 0);
    }

    // ---- what follows

    private static void owed() {
        SpoonWords x = chained(0);
        says(18, "BEYOND (also one and the same).");
        beyond("from", 0, 1, v -> x.owed(v, 1));
        beyond("to", 0, 1, v -> x.owed(0, v));
        due("one and the same", x.owed(0, 0), BEYOND);
        due("the other and the same", x.owed(1, 1), BEYOND);
        says(18, "OWED.");
        due("nothing", x.owed(0, 1), 0);
        SpoonWords y = lenders(2);
        for (int i = 0; i < 16; i++) {
            y.thing(0, 9999, 0);
            y.promise(0, 1, 9999, 0, 1 << i);
        }
        due("all of the most", y.owed(0, 1), 159984);
        due("the other way", y.owed(1, 0), 0);
        due("the 24th", promised().owed(0, 1), 10);
        due("broken", y.days(1), 16);
        due("owe nothing", y.owed(0, 1), 0);
    }

    /** Ten lenders, each with a thing; each owes to the next in a ring of so many. */
    private static SpoonWords ringOf(int n) {
        SpoonWords x = lenders(10);
        for (int i = 0; i < 10; i++) {
            x.thing(i, 100, 0);
        }
        for (int i = 0; i < n; i++) {
            x.promise(i, (i + 1) % n, 10 + i, 9, 1 << i);
        }
        return x;
    }

    private static void ring() {
        SpoonWords x = ringOf(10);
        says(19, "BEYOND: what -1 to 9.");
        beyond("what", -1, 9, v -> x.ring(0, v));
        beyond("person", 0, 9, v -> x.ring(v, 0));
        due("nobody is there", new SpoonWords().ring(0, -1), BEYOND);
        due("ahead of NONE", ringOf(0).ring(0, 10), BEYOND);
        says(19, "what -1 how many it has, i its i-th (0: the one itself).");
        due("how many", x.ring(0, -1), 10);
        due("the last", x.ring(0, 9), 9);
        due("the one itself", x.ring(9, 0), 9);
        due("round the end", x.ring(9, 1), 0);
        says(19, "NONE: there is no RING, or it has not so many.");
        due("no ring", ringOf(0).ring(0, -1), NONE);
        due("not even the one itself", ringOf(0).ring(0, 0), NONE);
        for (int n = 2; n < 10; n++) {
            SpoonWords y = ringOf(n);
            due("the last of " + n, y.ring(0, n - 1), n - 1);
            due("none behind it", y.ring(0, n), NONE);
            due("beside it", y.ring(9, -1), NONE);
        }
        says(TERMS, "a way by OWED above 0 from it back to it, of as few as can be (two at least), none twice");
        SpoonWords z = ringOf(2);
        due("two", z.ring(1, -1), 2);
        z.promise(2, 0, 1, 9, 4);
        due("one that only leads to a ring", z.ring(2, -1), NONE);
        z.keep(1);
        due("half a ring", z.ring(0, -1), NONE);
        SpoonWords full = fullRing();
        due("with as many promises as there may be", full.ring(0, -1), 2);
        due("the least then", full.cancel(0), 1);
        due("the 24th gave it", full.promiseOf(23, 4), 1);
        SpoonWords fewer = ringOf(10);
        fewer.promise(8, 0, 1, 9, 1 << 7);
        due("past the last", fewer.ring(0, -1), 9);
        due("not past the one itself", fewer.ring(9, -1), 10);
        ringAtNought();
        ringOfSeveral();
    }

    /** Two who owe one another, by the first and the last of 24 promises, in sums of 1. */
    private static SpoonWords fullRing() {
        SpoonWords x = chest(1, 15, 1);
        x.promise(0, 1, 1, 9, 2);
        for (int i = 1; i < 24; i++) {
            x.promise(1, 0, 1, 9, 1);
            if (i < 23) {
                x.keep(i);
            }
        }
        return x;
    }

    private static void ringAtNought() {
        SpoonWords x = chained(3);
        x.cancel(0);
        due("what is left at 10", x.owed(0, 1), 10);
        due("the other is open", x.promiseOf(1, 4), 0);
        due("owes 0", x.owed(1, 0), 0);
        due("so no ring", x.ring(0, -1), NONE);
    }

    private static void ringOfSeveral() {
        says(TERMS, "of several the one that tells least PEOPLE, one by one, from the second on");
        SpoonWords x = lenders(10);
        int[][] owes = {{0, 9}, {0, 1}, {1, 8}, {1, 7}, {7, 0}, {8, 0}, {9, 2}, {2, 0}};
        for (int i = 0; i < owes.length; i++) {
            x.thing(owes[i][0], 1, 0);
            x.promise(owes[i][0], owes[i][1], 1, 9, 1 << i);
        }
        due("of three", x.ring(0, -1), 3);
        due("second", x.ring(0, 1), 1);
        due("third", x.ring(0, 2), 7);
        due("from another one", x.ring(9, 1), 2);
        x.keep(1);
        due("second without it", x.ring(0, 1), 9);
        SpoonWords y = lenders(3);
        for (int i = 0; i < 2; i++) {
            y.thing(2, 1, 0);
            y.promise(2, 1 - i, 1, 9, 1 << 2 * i);
            y.thing(i, 1, 0);
            y.promise(i, 2, 1, 9, 2 << 2 * i);
        }
        due("two with each", y.ring(2, -1), 2);
        due("the least of all", y.ring(2, 1), 0);
    }

    private static void cancel() {
        SpoonWords x = ringOf(3);
        says(20, "BEYOND.");
        beyond("person", 0, 9, x::cancel);
        due("nobody is there", new SpoonWords().cancel(0), BEYOND);
        says(20, "NONE: there is no RING.");
        due("beside it", x.cancel(9), NONE);
        due("none at all", ringOf(0).cancel(0), NONE);
        due("nothing was taken", x.owed(0, 1), 10);
        says(TERMS, "the least OWED along it (each FROM one TO the next) is taken off all along (from the one itself on, pair by pair)");
        due("the least", x.cancel(1), 10);
        due("none is left of it", x.owed(0, 1), 0);
        due("one is left", x.owed(1, 2), 1);
        due("two are left", x.owed(2, 0), 2);
        due("no ring any more", x.cancel(1), NONE);
        due("a ring of ten", ringOf(10).cancel(7), 10);
        says(TERMS, "a SUM that comes to 0 is KEPT if it can be kept then, and stays OPEN with a SUM of 0 else");
        due("kept", x.promiseOf(0, 4), 1);
        due("with a sum of 0", x.promiseOf(0, 2), 0);
        due("a sum of 1 isn't", x.promiseOf(1, 4), 0);
        due("its thing came back", x.thingOf(0, 1), 0);
        SpoonWords y = chained(2);
        due("from the first", y.cancel(0), 10);
        due("which couldn't be kept then", y.promiseOf(0, 4), 0);
        due("has a sum of 0", y.promiseOf(0, 2), 0);
        due("is in its chain", y.thingOf(0, 4), 1);
        due("and the second could", y.promiseOf(1, 4), 1);
        due("no sum of 0 is bare", y.bare(), 0);
        due("it can be kept now", y.keep(0), 1);
        SpoonWords z = chained(2);
        due("from the second", z.cancel(1), 10);
        due("both are kept", z.count(3), 0);
        cancelBySum();
    }

    private static void cancelBySum() {
        says(TERMS, "of the OPEN PROMISES between two, by numbers, as much of each SUM as is still to be taken");
        SpoonWords x = lenders(2);
        int[] sums = {3, 4, 5};
        for (int i = 0; i < 3; i++) {
            x.thing(0, 100, 0);
            x.promise(0, 1, sums[i], 9, 1 << i);
        }
        x.thing(1, 100, 0);
        x.promise(1, 0, 7, 9, 8);
        x.image();
        due("just two of three", x.cancel(0), 7);
        due("the first", x.promiseOf(0, 4), 1);
        due("the second", x.promiseOf(1, 4), 1);
        due("the third's sum", x.promiseOf(2, 2), 5);
        x.undo();
        x.thing(1, 100, 0);
        x.promise(1, 0, 1, 9, 16);
        due("one more than two of three", x.cancel(0), 8);
        due("one of the third", x.promiseOf(2, 2), 4);
        due("a sum of 1 is kept", x.promiseOf(4, 4), 1);
        x.undo();
        x.keep(0);
        due("without a kept one", x.cancel(1), 7);
        due("a kept one's sum stays", x.promiseOf(0, 2), 3);
        due("the third gave", x.promiseOf(2, 2), 2);
        due("and is open", x.promiseOf(2, 4), 0);
    }

    /** Things of the first of two lenders, the first few of them the second one's. */
    private static SpoonWords chest(int others, int n, int base) {
        SpoonWords x = lenders(2);
        for (int i = 0; i < others + n; i++) {
            x.thing(i < others ? 1 : 0, base, 0);
        }
        return x;
    }

    private static void fewest() {
        says(21, "BEYOND: PEOPLE (also one and the same), sum (1 to 9999).");
        SpoonWords x = chest(0, 11, 1);
        beyond("from", 0, 1, v -> x.fewest(v, 1, 1));
        beyond("to", 0, 1, v -> x.fewest(0, v, 1));
        beyond("sum, ahead of SIZE", 1, 9999, v -> x.fewest(0, 1, v));
        due("one and the same", x.fewest(1, 1, 1), BEYOND);
        says(21, "SIZE: there are more than 10.");
        due("eleven", x.fewest(0, 1, 1), SIZE);
        due("ahead of NONE", x.fewest(0, 1, 9999), SIZE);
        due("sixteen", chest(0, 16, 1).fewest(0, 1, 1), SIZE);
        says(TERMS, "(10 at most)");
        due("all of ten", chest(0, 10, 7).fewest(0, 1, 70), 1023);
        due("the last ten of sixteen", chest(6, 10, 7).fewest(0, 1, 70), 0xffc0);
        due("nine of the last ten", chest(6, 10, 7).fewest(0, 1, 63), 0x7fc0);
        due("one of the last ten", chest(6, 10, 7).fewest(0, 1, 7), 64);
        x.steal(10);
        due("ten without a stolen one", x.fewest(0, 1, 10), 1023);
        x.promise(0, 1, 1, 0, 1);
        due("nine without one that is given", x.fewest(0, 1, 9), 1022);
        says(21, "NONE: all don't.");
        due("one more than all", chest(0, 10, 7).fewest(0, 1, 71), NONE);
        due("nothing at all", chest(0, 0, 0).fewest(0, 1, 1), NONE);
        due("things that count 0", chest(0, 10, 0).fewest(0, 1, 1), NONE);
        due("the most", chest(0, 1, 9999).fewest(0, 1, 9999), 1);
        says(TERMS, "the set of fewest that COUNT a SUM together; of several the least set");
        SpoonWords y = lenders(2);
        for (int base : new int[] {3, 2, 5, 5, 4}) {
            y.thing(0, base, 0);
        }
        due("one, the least set", y.fewest(0, 1, 5), 4);
        due("one by all means", y.fewest(0, 1, 1), 1);
        due("two, the least set", y.fewest(0, 1, 7), 5);
        due("two by all means", y.fewest(0, 1, 10), 12);
        due("three", y.fewest(0, 1, 11), 13);
        fewestInChains();
    }

    private static void fewestInChains() {
        says(TERMS, "of THINGS that one of the PEOPLE could put behind a PROMISE to another one just now");
        SpoonWords x = chained(5);
        due("a chain of five with pass 5", x.fewest(1, 0, 10), 1);
        x.rule(0, 4);
        due("with pass 4", x.fewest(1, 0, 10), NONE);
        due("not the owner's to put", x.fewest(0, 1, 1), NONE);
        due("a chain of six", chained(6).fewest(0, 1, 1), NONE);
    }

    private static void most() {
        SpoonWords x = chest(0, 16, 9999);
        says(22, "BEYOND (also one and the same).");
        beyond("from", 0, 1, v -> x.most(v, 1));
        beyond("to", 0, 1, v -> x.most(0, v));
        due("one and the same", x.most(0, 0), BEYOND);
        says(22, "What all THINGS that one of the PEOPLE could put behind a PROMISE to another one just now COUNT together.");
        due("sixteen of the most", x.most(0, 1), 159984);
        due("none", x.most(1, 0), 0);
        x.steal(0);
        due("without a stolen one", x.most(0, 1), 149985);
        due("a chain of six", chained(6).most(0, 1), 0);
        due("a chain of five", chained(5).most(1, 0), 10);
    }

    private static void look() {
        SpoonWords x = chained(6);
        says(23, "BEYOND.");
        beyond("promise", 0, 5, v -> x.look(v, 0));
        beyond("what", 0, 1, v -> x.look(0, v));
        due("none is there", chained(0).look(0, 0), BEYOND);
        says(23, "STATE: it isn't OPEN.");
        SpoonWords y = chained(2);
        y.keep(1);
        due("kept", y.look(1, 0), STATE);
        due("BEYOND ahead of it", y.look(1, 2), BEYOND);
        y.breaks(0);
        due("broken", y.look(0, 1), STATE);
        says(TERMS, "how many OPEN PROMISES would have less COVER than SUM that haven't now, if it were BROKEN");
        for (int i = 0; i < 6; i++) {
            due("those ahead of " + i, x.look(i, 1), i);
        }
        x.keep(5);
        due("the last of five", x.look(4, 1), 4);
        x.base(0, 9);
        due("that haven't now", x.look(4, 1), 0);
        SpoonWords z = lenders(3);
        z.thing(0, 10, 0);
        z.thing(0, 10, 0);
        z.promise(0, 1, 10, 9, 3);
        z.promise(1, 2, 10, 9, 1);
        due("just enough is left", z.look(1, 1), 0);
        z.base(1, 9);
        due("one too little is left", z.look(1, 1), 1);
        SpoonWords kinds = people(0, 2, 2);
        kinds.thing(0, 10, 0);
        kinds.thing(0, 10, 0);
        kinds.promise(0, 1, 10, 9, 1);
        kinds.promise(0, 2, 10, 9, 2);
        due("just enough for whom it lies with", kinds.look(1, 1), 0);
        says(TERMS, "A BREAK looked at (nothing changes): what would be more in HARM of all");
        due("of both things", z.look(0, 0), 19);
        due("of one", z.look(1, 0), 10);
        due("no harm", z.personOf(0, 1), 0);
        due("no owner", z.personOf(0, 2), 3);
        due("no chain", z.thingOf(0, 4), 2);
        due("none is broken", z.count(3), 2);
        z.breaks(1);
        z.steal(1);
        due("of a stolen one too", z.look(0, 0), 9);
        due("of none", lookWithoutThings(), 0);
    }

    private static long lookWithoutThings() {
        SpoonWords x = chained(2);
        x.breaks(1);
        return x.look(0, 0);
    }

    private static void worst() {
        says(24, "NONE: none is OPEN.");
        due("none is there", new SpoonWords().worst(), NONE);
        SpoonWords x = chained(2);
        due("of several the least", x.worst(), 0);
        x.breaks(1);
        says(24, "The OPEN PROMISE whose BREAK would do most HARM; of several the least.");
        due("one that does none", x.worst(), 0);
        due("the 24th", promised().worst(), 23);
        x.keep(0);
        due("none is open", x.worst(), NONE);
        SpoonWords y = lenders(2);
        for (int i = 0; i < 4; i++) {
            y.thing(0, i < 1 ? 4 : 5, 0);
            y.promise(0, 1, 1, 9, 1 << i);
        }
        due("of three the least", y.worst(), 1);
        y.steal(1);
        due("a stolen one does harm too", y.worst(), 1);
        y.base(3, 6);
        due("by one more", y.worst(), 3);
    }

    private static void night() {
        SpoonWords x = chained(6);
        says(25, "BEYOND.");
        beyond("what", 0, 2, x::night);
        says(TERMS, "THE NIGHT (nothing changes): all OPEN PROMISES that can be are KEPT, by numbers, again and again, till none can be");
        due("all six", x.night(0), 6);
        due("are open still", x.count(3), 6);
        due("in their chain", x.thingOf(0, 4), 6);
        due("held still", x.thingOf(0, 1), 0);
        due("nobody is there", new SpoonWords().night(0), 0);
        SpoonWords most = lenders(2);
        for (int i = 0; i < 16; i++) {
            most.thing(0, 1, 0);
            most.promise(0, 1, 1, 9, 1 << i);
        }
        for (int i = 0; i < 8; i++) {
            most.promise(1, 0, 1, 9, 1 << i);
        }
        due("all 24", most.night(0), 24);
        says(TERMS, "(the last, in which none is, not counted)");
        due("six rounds", x.night(1), 6);
        due("two rounds", most.night(1), 2);
        due("one round", chained(1).night(1), 1);
        due("no round", chained(0).night(1), 0);
        due("nobody is there", new SpoonWords().night(1), 0);
        says(TERMS, "how many THINGS that aren't STOLEN lie with their OWNERS then");
        due("all of them", most.night(2), 16);
        most.steal(0);
        due("less a stolen one", most.night(2), 15);
        most.breaks(16 + 1);
        due("another's own now", most.night(2), 15);
        due("nobody is there", new SpoonWords().night(2), 0);
        SpoonWords y = lenders(3);
        y.thing(0, 1, 0);
        y.promise(0, 1, 1, 9, 1);
        y.promise(1, 2, 1, 9, 1);
        y.breaks(0);
        due("back with the new owner", y.night(2), 1);
    }

    private static void least() {
        SpoonWords x = people(0, 2, 3, 5);
        x.thing(0, 100, 0);
        x.thing(0, 9999, 0);
        says(26, "BEYOND: set, person, sum.");
        for (int i = 2; i < 32; i++) {
            due("thing " + i, x.least(1 | 1 << i, 0, 1), BEYOND);
        }
        beyond("person", 0, 3, v -> x.least(1, v, 1));
        beyond("sum", 1, 9999, v -> x.least(1, 0, v));
        due("ahead of NONE", x.least(0, 4, 1), BEYOND);
        due("sum ahead of NONE", x.least(0, 0, 0), BEYOND);
        says(26, "The least PART (0 to 100) with which a set of THINGS COUNTS a SUM (1 to 9999) for one of the PEOPLE.");
        due("100", x.least(1, 0, 100), 100);
        due("99", x.least(1, 0, 99), 99);
        due("1", x.least(1, 0, 1), 1);
        due("0", x.least(1, 1, 100), 0);
        due("0 for a keeper", x.least(1, 3, 5), 0);
        due("2 for a keeper", x.least(1, 3, 6), 2);
        due("the most", x.least(2, 0, 9999), 100);
        due("one less", x.least(2, 0, 9998), 100);
        due("of both", x.least(3, 0, 9999), 100);
        due("of both for what 99 make", x.least(3, 0, 9997), 99);
        due("the rule stays", x.rule(1, 66), 66);
        says(26, "NONE.");
        due("one more than there is", x.least(1, 0, 101), NONE);
        due("no set", x.least(0, 1, 1), NONE);
        due("a child's", x.least(3, 2, 1), NONE);
        due("one more than a lender's", x.least(1, 1, 101), NONE);
        x.steal(0);
        due("a stolen one", x.least(1, 1, 1), NONE);
    }

    private static void bare() {
        says(27, "OPEN PROMISES with less COVER than SUM, as a set.");
        due("nobody is there", new SpoonWords().bare(), 0);
        SpoonWords x = chained(2);
        due("just so much", x.bare(), 0);
        x.base(0, 9);
        due("one too little", x.bare(), 3);
        x.keep(1);
        due("not a kept one", x.bare(), 1);
        SpoonWords y = promised();
        y.steal(0);
        due("the 24th", y.bare(), 1 << 23);
        y.breaks(23);
        due("not a broken one", y.bare(), 0);
    }

    // ---- the text

    private static void feed() {
        SpoonWords x = new SpoonWords();
        says(28, "BEYOND: n.");
        beyond("n", 1, 4, v -> x.feed(97, v));
        due("nothing came", x.count(5), 0);
        says(28, "the highest of these first (n 1 to 4): how many it has.");
        due("one", x.feed(0x63, 1), 1);
        due("four", x.feed(0x68696c64, 4), 5);
        due("two of a larger number", x.feed(0x7777203b, 2), 7);
        due("three of a larger number", x.feed(0xff706172, 3), 10);
        due("two", x.feed(0x7439, 2), 12);
        due("they are a text", x.town(), 2);
        due("with its last byte", x.rule(1, 66), 9);
        due("a byte above 127", x.feed(-1, 1), 1);
        due("is one that begins no token", x.town(), -1);
        due("the lowest byte of four", x.feed(0x20202041, 4), 4);
        due("is the last", x.town(), -1 - 3);
        due("the highest byte of four", x.feed(0xc1202020, 4), 4);
        due("is the first", x.town(), -1);
        says(TERMS, "THE TAPE (bytes, at most 100)");
        for (int i = 1; i <= 25; i++) {
            due("bytes", x.feed(0x20202020, 4), 4 * i);
        }
        due("so many", x.count(5), 100);
        says(28, "FULL.");
        for (int n = 1; n <= 4; n++) {
            due("full for " + n, x.feed(0, n), FULL);
        }
        due("BEYOND ahead of it", x.feed(0, 0), BEYOND);
        due("as does 5", x.feed(0, 5), BEYOND);
        due("all of it is read", x.town(), -1 - 100);
        feedUpTo();
    }

    private static void feedUpTo() {
        for (int room = 0; room < 4; room++) {
            SpoonWords x = new SpoonWords();
            for (int i = 0; i < 24; i++) {
                x.feed(0x20202020, 4);
            }
            x.feed(0x20202020, 4 - room);
            due("one too many for room " + room, x.feed(0, room + 1), FULL);
            due("none of it came", x.count(5), 100 - room);
            if (room > 0) {
                due("just as many", x.feed(0, room), 100);
            }
        }
    }

    private static void wipe() {
        says(29, "THE TAPE is empty: how many it had.");
        SpoonWords x = new SpoonWords();
        due("none", x.wipe(), 0);
        for (int i = 0; i < 25; i++) {
            x.feed(0x61616161, 4);
        }
        due("100", x.wipe(), 100);
        due("none then", x.count(5), 0);
        due("room again", x.feed(0x6368696c, 4), 4);
        due("and again", x.feed(0x64, 1), 5);
        due("nothing else is on it", x.town(), 1);
        x.feed(0x31313131, 4);
        x.feed(0x31313131, 4);
        due("eight", x.wipe(), 8);
        due("no digit of these", tell(x, "part 1"), 1);
        due("part", x.rule(1, 66), 1);
    }

    private static void town() {
        says(30, "THE TAPE is THE TEXT of a TOWN, whose ITEMS come to what there is, and empty then: how many ITEMS.");
        SpoonWords x = people(5);
        due("two", tell(x, "child;thing 1 7"), 2);
        due("behind what there is", x.personOf(1, 0), 3);
        due("owner", x.thingOf(0, 0), 1);
        due("empty", x.count(5), 0);
        due("nothing is left of it", x.town(), -1);
        due("100 bytes", tell(x, "pass5;".repeat(15) + "part 00100"), 16);
        due("the last of them", x.rule(1, 66), 100);
        says(30, "With a FAULT: -1 less its place (nothing changes but that THE TAPE is empty; no finding).");
        due("at the first byte", tell(x, "!"), -1);
        due("at the last byte", tell(x, "pass4;".repeat(16) + "    "), -1 - 100);
        due("at the last of 100", tell(x, "pass4;".repeat(16) + "   !"), -1 - 99);
        due("behind items that may be", tell(x, "child;thing 0 1;pass 3;part 3;!"), -1 - 30);
        due("no more people", x.count(0), 2);
        due("no more things", x.count(1), 1);
        due("pass", x.rule(0, 5), 5);
        due("part", x.rule(1, 66), 66);
        due("the tape", x.count(5), 0);
        due("no finding", x.status(-1), 0);
        says(TERMS, "thing, a NUMBER (OWNER, who is there by then), a NUMBER (BASE), perhaps rot and a NUMBER (0 to 99): a new one");
        due("who comes with it", tell(x, "child;thing 2 0;thing 2 9999 rot 0;thing 2 0 rot 99"), 4);
        due("base", x.thingOf(2, 2), 9999);
        due("no rot", x.thingOf(1, 3), 0);
        due("most rot", x.thingOf(3, 3), 99);
        due("who comes too late", tell(x, "thing 3 0;child"), -1 - 6);
        due("nobody is there", tell(new SpoonWords(), "thing 0 0"), -1 - 6);
        faultAt(8, "thing 0 10000");
        faultAt(10, "thing 0 0 rots 1");
        faultAt(14, "thing 0 0 rot 100");
        says(TERMS, "pass and a NUMBER (0 to 5); part and a NUMBER (0 to 100)");
        due("the least", tell(x, "pass 0;part 0"), 2);
        due("pass 0, and the most", tell(x, "pass 5;part 100"), 2);
        due("pass 5", x.rule(0, 1), 5);
        due("part 100", x.rule(1, 66), 100);
        faultAt(5, "pass 6");
        faultAt(5, "part 101");
        faultAt(12, "pass 5;part 101");
    }

    private static void tokens() {
        says(TERMS, "TOKENS, each as long as can be: WORDS (letters a to z), NUMBERS (digits, 9999 at most), SIGN ; ; blanks may stand between.");
        SpoonWords x = people(0, 0);
        due("without blanks", tell(x, "thing1 5rot9;child;pass3"), 3);
        due("with many", tell(x, "  thing  1   5  rot   9  ;  child  ;  pass  3  "), 3);
        due("the greatest number", tell(x, "thing 0 9999"), 1);
        due("noughts ahead", tell(x, "part " + "0".repeat(93) + "99"), 1);
        due("part", x.rule(1, 66), 99);
        faultAt(0, "persons");
        faultAt(0, "persona");
        faultAt(0, "personz");
        faultAt(0, "xerson");
        faultAt(0, "personchild");
        faultAt(0, "per son");
        faultAt(0, "a");
        faultAt(0, "z");
        faultAt(6, "person`");
        faultAt(6, "person{");
        faultAt(6, "person/");
        faultAt(6, "person:");
        faultAt(0, "PERSON");
        faultAt(5, "pass /");
        faultAt(5, "pass :");
        faultAt(6, "pass 1/");
        faultAt(6, "pass 1:");
        faultAt(6, "person\t;child");
        faultAt(6, "person\n");
        faultAt(6, "person" + (char) 160);
        faultAt(6, "person" + (char) 0);
        faultAt(5, "pass 10");
        faultAt(7, "pass 1 0");
        faultAt(8, "thing 0 10000");
        faultAt(8, "thing 0 99990");
        // These would be 0 or 1 if they ran over in 16, 32 or 64 bits.
        faultAt(5, "part 65537");
        faultAt(5, "part 4294967296");
        faultAt(5, "part 18446744073709551616");
        faultAt(5, "part 1" + "0".repeat(94));
    }

    private static void townFaults() {
        says(TERMS, "FAULT: the place (from 0) of the first byte of the first TOKEN that can't stand there (a NUMBER that may not be, another WORD,"
            + " a byte that begins no TOKEN, the name of a KIND for an 11th of the PEOPLE, thing for a 17th: its own)");
        faultAt(6, "thing 2 1");
        faultAt(0, "1");
        faultAt(0, ";");
        faultAt(0, "rot 1");
        faultAt(7, "person;;person");
        faultAt(7, "person person");
        faultAt(7, "person 1");
        faultAt(6, "thing rot 1");
        faultAt(5, "thing;");
        faultAt(7, "thing 1;");
        faultAt(8, "thing 1 person");
        faultAt(10, "thing 1 1 1");
        faultAt(10, "thing 1 1 pass 1");
        faultAt(13, "thing 1 1 rot;");
        faultAt(14, "thing 1 1 rot rot 1");
        faultAt(16, "thing 1 1 rot 1 rot 1");
        faultAt(5, "pass part 1");
        faultAt(4, "part;");
        faultAt(7, "part 1 1");
        faultAt(6, "thing -1 1");
        SpoonWords x = people(0, 0, 0, 0, 0, 0, 0, 0, 0);
        due("an 11th", tell(x, "child; child"), -1 - 7);
        due("nor the 10th then", x.count(0), 9);
        due("a 10th", tell(x, "child"), 1);
        for (int i = 0; i < 15; i++) {
            x.thing(0, 1, 0);
        }
        due("a 17th, ahead of its numbers", tell(x, "thing 9 1; thing 10 99999"), -1 - 11);
        due("nor the 16th then", x.count(1), 15);
        due("a 16th", tell(x, "thing 9 1"), 1);
        due("no room, but rules", tell(x, "pass 2;part 2"), 2);
        says(TERMS, "or how many bytes there are if it ends too early");
        faultAt(0, "");
        faultAt(1, " ");
        faultAt(100, " ".repeat(100));
        faultAt(7, "person;");
        faultAt(9, "person;  ");
        faultAt(5, "thing");
        faultAt(6, "thing ");
        faultAt(7, "thing 0");
        faultAt(9, "thing 0  ");
        faultAt(13, "thing 0 1 rot");
        faultAt(15, "thing 0 1 rot  ");
        faultAt(4, "pass");
        faultAt(5, "part ");
    }

    // ---- sheets

    private static void sheet() {
        SpoonWords x = new SpoonWords();
        says(TERMS, "SHEETS 0 to 3 are rows of at most 40 numbers of 8, 16 or 64 bits, or MISSING (at first).");
        for (int s = 0; s < 4; s++) {
            due("sheet " + s, x.read(s), MISSING);
        }
        int[] widths = {8, 16, 64};
        for (int i = 0; i < 3; i++) {
            due("40 of " + widths[i], x.sheet(i + 1, widths[i], 40), 40);
            due("the last of them", x.write(i + 1, 39, 0), 0);
            due("none behind it", x.write(i + 1, 40, 0), BEYOND);
        }
        says(31, "BEYOND: no such sheet, other bits.");
        beyond("sheet", 0, 3, v -> x.sheet(v, 8, 1));
        for (int bits : new int[] {-8, -1, 1, 4, 7, 9, 15, 17, 24, 32, 63, 65, 128, 256, 264, LOW, HIGH}) {
            due("bits " + bits, x.sheet(3, bits, 1), BEYOND);
        }
        due("sheet, ahead of SIZE", x.sheet(4, 8, -1), BEYOND);
        due("bits, ahead of SIZE", x.sheet(0, 9, -1), BEYOND);
        says(31, "SIZE: n is below 0 (also with bits 0).");
        for (int n : new int[] {-1, -40, LOW}) {
            for (int bits : new int[] {0, 8, 16, 64}) {
                due("n " + n + " of " + bits, x.sheet(3, bits, n), SIZE);
            }
        }
        says(31, "BEYOND: n is above 40 (also with bits 0).");
        for (int n : new int[] {41, 256, 65536, HIGH}) {
            for (int bits : new int[] {0, 8, 16, 64}) {
                due("n " + n + " of " + bits, x.sheet(3, bits, n), BEYOND);
            }
        }
        due("it stays", x.write(3, 39, 0), 0);
        says(31, "A sheet has n numbers, all 0, of 8, 16 or 64 bits; bits 0: it is MISSING: n (0 if it is MISSING).");
        for (int i = 0; i < 40; i++) {
            x.write(3, i, -1);
        }
        due("one", x.sheet(3, 64, 1), 1);
        due("all 0 again", x.sheet(3, 64, 40), 40);
        isRow(x, 3, new long[40]);
        due("none", x.sheet(3, 64, 0), 0);
        due("isn't missing", x.write(3, 0, 0), BEYOND);
        due("missing with 40", x.sheet(3, 0, 40), 0);
        due("it is", x.write(3, 0, 0), MISSING);
        due("missing with 0", x.sheet(2, 0, 0), 0);
        due("it is", x.lays(2), MISSING);
        due("missing still", x.sheet(2, 0, 1), 0);
        due("the others stay", x.write(1, 39, 0), 0);
    }

    private static void write() {
        SpoonWords x = new SpoonWords();
        says(32, "BEYOND: no such sheet.");
        beyond("sheet", 0, 3, v -> x.write(v, 0, 1));
        beyond("sheet, ahead of the number", 0, 3, v -> x.write(v, -1, 1));
        says(32, "MISSING.");
        due("missing", x.write(0, 0, 1), MISSING);
        due("ahead of the number", x.write(0, -1, 1), MISSING);
        due("and of one behind", x.write(0, 40, 1), MISSING);
        says(32, "BEYOND: no such number.");
        row(x, 0, 8, 5, 6);
        beyond("number", 0, 1, v -> x.write(0, v, 9));
        isRow(x, 0, 5, 6);
        x.sheet(1, 64, 0);
        due("of none", x.write(1, 0, 9), BEYOND);
        says(32, "Number i of a sheet becomes v (its lowest bits): what it was.");
        lowestBits(x, 8, 127, -128);
        lowestBits(x, 16, 32767, -32768);
        x.sheet(2, 64, 1);
        due("64 bits", x.write(2, 0, Long.MAX_VALUE), 0);
        due("the most", x.write(2, 0, Long.MIN_VALUE), Long.MAX_VALUE);
        due("the least", x.write(2, 0, 1L << 32), Long.MIN_VALUE);
        due("above 32 bits", x.write(2, 0, BEYOND), 1L << 32);
        int findings = x.status(-1);
        due("one like a finding", x.write(2, 0, 0), BEYOND);
        due("is none", x.status(-1), findings);
    }

    private static void lowestBits(SpoonWords x, int bits, long most, long least) {
        x.sheet(2, bits, 1);
        due("the most of " + bits, x.write(2, 0, most), 0);
        due("one more", x.write(2, 0, most + 1), most);
        due("comes round", x.write(2, 0, least - 1), least);
        due("and back", x.write(2, 0, 1L << bits), most);
        due("the bits above are cut", x.write(2, 0, Long.MIN_VALUE), 0);
        due("all of them", x.write(2, 0, Long.MAX_VALUE), 0);
        due("the lowest stay", x.write(2, 0, 0), -1);
    }

    private static void copy() {
        SpoonWords x = new SpoonWords();
        says(33, "BEYOND: no such sheet (either).");
        beyond("from sheet, ahead of MISSING", 0, 3, v -> x.copy(v, 0, 0, 0, 0));
        beyond("to sheet, ahead of MISSING", 0, 3, v -> x.copy(0, 0, v, 0, 0));
        says(33, "MISSING: one is.");
        row(x, 0, 8, 1, 2, 3, 4, 5);
        row(x, 1, 8, 7, 8, 9);
        row(x, 2, 16, 1);
        due("from", x.copy(3, 0, 0, 0, 0), MISSING);
        due("to", x.copy(0, 0, 3, 0, 0), MISSING);
        due("both", x.copy(3, 0, 3, 0, 0), MISSING);
        due("ahead of the places", x.copy(0, -1, 3, -1, -1), MISSING);
        says(33, "KIND: they are not of as many bits.");
        due("8 and 16", x.copy(0, 0, 2, 0, 1), KIND);
        due("16 and 8", x.copy(2, 0, 0, 0, 1), KIND);
        due("none of them", x.copy(0, 0, 2, 0, 0), KIND);
        due("ahead of the places", x.copy(0, -1, 2, 9, -1), KIND);
        says(33, "BEYOND: one has not so many, or from, to or n is below 0.");
        beyond("from", 0, 2, v -> x.copy(0, v, 1, 0, 3));
        beyond("to", 0, 2, v -> x.copy(0, 0, 1, v, 1));
        beyond("n from", 0, 5, v -> x.copy(0, 0, 0, 0, v));
        beyond("n to", 0, 3, v -> x.copy(0, 0, 1, 0, v));
        due("from at the end", x.copy(0, 5, 1, 0, 1), BEYOND);
        due("to at the end", x.copy(0, 0, 1, 3, 1), BEYOND);
        due("they would run over", x.copy(0, HIGH, 1, 0, HIGH), BEYOND);
        due("to where they would run over", x.copy(0, 0, 1, HIGH, 1), BEYOND);
        due("from where they would run over", x.copy(0, HIGH, 1, 0, 1), BEYOND);
        due("what would make up for it", x.copy(0, 5, 1, 0, -1), BEYOND);
        isRow(x, 0, 1, 2, 3, 4, 5);
        isRow(x, 1, 7, 8, 9);
        says(33, "n numbers of a sheet from one on come to another one from one on (as they all were): n.");
        due("none, at both ends", x.copy(0, 5, 1, 3, 0), 0);
        due("all of it", x.copy(0, 2, 1, 0, 3), 3);
        isRow(x, 1, 3, 4, 5);
        due("the last alone", x.copy(0, 4, 1, 2, 1), 1);
        due("onto itself, on", x.copy(0, 0, 0, 1, 4), 4);
        isRow(x, 0, 1, 1, 2, 3, 4);
        due("onto itself, back", x.copy(0, 1, 0, 0, 4), 4);
        isRow(x, 0, 1, 2, 3, 4, 4);
        copyWhole();
    }

    private static void copyWhole() {
        SpoonWords x = new SpoonWords();
        x.sheet(0, 64, 40);
        x.sheet(3, 64, 40);
        x.write(0, 39, Long.MIN_VALUE);
        due("40", x.copy(0, 0, 3, 0, 40), 40);
        due("the last", x.write(3, 39, 0), Long.MIN_VALUE);
        due("41", x.copy(0, 0, 3, 0, 41), BEYOND);
        x.sheet(1, 64, 0);
        due("none to none", x.copy(1, 0, 1, 0, 0), 0);
        due("one to none", x.copy(0, 0, 1, 0, 1), BEYOND);
    }

    private static void lays() {
        SpoonWords x = people(0);
        says(34, "BEYOND: no such sheet.");
        beyond("sheet", 0, 3, x::lays);
        says(34, "MISSING.");
        due("missing", x.lays(3), MISSING);
        says(34, "(those that aren't 0 to 9999, or stand for no THING, are left out): how many came.");
        row(x, 3, 64, 1, 2);
        due("there are no things", x.lays(3), 0);
        for (int i = 0; i < 8; i++) {
            x.thing(0, 100 + i, 0);
        }
        row(x, 3, 64, 0, 9999, -1, 10000, 1L << 32, Long.MIN_VALUE, Long.MAX_VALUE, 7, 7, 7);
        due("three of ten", x.lays(3), 3);
        int[] want = {0, 9999, 102, 103, 104, 105, 106, 7};
        for (int i = 0; i < 8; i++) {
            due("base " + i, x.thingOf(i, 2), want[i]);
        }
        row(x, 3, 8, 127, 128);
        due("of 8 bits", x.lays(3), 1);
        row(x, 3, 16, 9999, 10000, 32767);
        due("of 16 bits", x.lays(3), 1);
        x.sheet(3, 8, 0);
        due("none", x.lays(3), 0);
        x.sheet(3, 64, 40);
        due("all things", x.lays(3), 8);
        due("with none left", x.count(6), 0);
        due("no findings", x.status(5), 1);
    }

    private static void keeps() {
        SpoonWords x = chained(6);
        says(35, "BEYOND: no such sheet.");
        beyond("sheet", 0, 3, x::keeps);
        says(35, "MISSING.");
        due("missing", x.keeps(0), MISSING);
        says(35, "one by one (those that can't be are left out): how many were.");
        int findings = x.status(-1);
        row(x, 0, 64, 4, 5, -1, 6, (1L << 32) + 4, Long.MIN_VALUE, Long.MAX_VALUE, 5, 3);
        due("one of nine", x.keeps(0), 1);
        due("the fifth can be now", x.can(), 16);
        row(x, 0, 8, 4, 3, 2, 1, 0, 0);
        due("all, from the last on", x.keeps(0), 5);
        due("none is open", x.count(3), 0);
        due("home", x.thingOf(0, 1), 0);
        due("none again", x.keeps(0), 0);
        x.sheet(0, 16, 0);
        due("none of none", x.keeps(0), 0);
        due("no findings", x.status(-1), findings);
        SpoonWords y = promised();
        row(y, 0, 16, 24, 23);
        due("the 24th", y.keeps(0), 1);
        due("nobody is there", keepsInNoTown(), 0);
    }

    private static int keepsInNoTown() {
        SpoonWords x = new SpoonWords();
        x.sheet(0, 8, 40);
        return x.keeps(0);
    }

    private static void read() {
        SpoonWords x = lenders(3);
        says(36, "BEYOND: no such sheet.");
        beyond("sheet", 0, 3, x::read);
        says(36, "MISSING.");
        due("missing", x.read(2), MISSING);
        says(36, "0 if all (as many as there are) are right, else 1 and the place of the first that isn't, or stands for no THING.");
        row(x, 2, 64);
        due("none, of no things", x.read(2), 0);
        row(x, 2, 64, 0);
        due("one for no thing", x.read(2), 1);
        for (int i = 0; i < 16; i++) {
            x.thing(i % 3, 1, 0);
        }
        due("the first alone", x.read(2), 0);
        row(x, 2, 64, 0, 1, 2, 0, 1, 2, 0, 1, 2, 0, 1, 2, 0, 1, 2, 0);
        due("all sixteen", x.read(2), 0);
        x.write(2, 15, 1);
        due("not the last", x.read(2), 16);
        x.write(2, 0, 1L << 32);
        due("nor the first", x.read(2), 1);
        row(x, 2, 8, 0, 1, 2, 0, 1, 2, 0, 1, 2, 0, 1, 2, 0, 1, 2, 0, 0);
        due("one for a 17th", x.read(2), 17);
        row(x, 2, 64, 0, -1);
        due("below 0", x.read(2), 2);
        x.promise(0, 1, 1, 9, 1);
        due("holder, not owner", x.read(2), 1);
    }

    // ---- images

    private static void images() {
        says(37, "All that section 1 tells (THE TAPE not) is kept: 1.");
        SpoonWords x = new SpoonWords();
        due("of nothing", x.image(), 1);
        x.person(2);
        x.person(2);
        x.thing(0, 5, 1);
        x.promise(0, 1, 5, 0, 1);
        x.rule(0, 3);
        x.rule(1, 3);
        x.days(2);
        x.feed(0x20, 1);
        says(38, "It becomes what was kept latest (which stays): how many PROMISES.");
        due("none", x.undo(), 0);
        for (int what = 0; what <= 6; what++) {
            due("count " + what, x.count(what), what == 5 ? 1 : 0);
        }
        due("pass", x.rule(0, 2), 1);
        due("part", x.rule(1, 2), 66);
        due("again", x.undo(), 0);
        due("pass again", x.rule(0, 1), 1);
        SpoonWords y = promised();
        due("of a full town", y.image(), 1);
        y.keep(23);
        due("of it kept", y.count(3), 0);
        due("24", y.undo(), 24);
        due("the last is open", y.promiseOf(23, 4), 0);
        y.keep(23);
        y.image();
        due("the latest", y.undo(), 24);
        due("in which it is kept", y.promiseOf(23, 4), 1);
        imageOfAll();
        says(38, "NONE: nothing is kept.");
        due("nothing yet", promised().undo(), NONE);
        due("torn", y.tear(), 1);
        due("nothing any more", y.undo(), NONE);
        due("all stays", y.count(2), 24);
        says(39, "Nothing is kept: 1 if something was, else 0.");
        due("nothing was", y.tear(), 0);
        due("an image again", y.image(), 1);
        due("two", y.image(), 1);
        due("both are torn", y.tear(), 1);
        due("nothing is left", y.tear(), 0);
        due("nothing of the other", y.undo(), NONE);
        due("a new one tears nothing", new SpoonWords().tear(), 0);
    }

    /** Each row of section 1 comes back, the last of it too. */
    private static void imageOfAll() {
        SpoonWords x = lenders(9);
        x.person(5);
        for (int i = 0; i < 16; i++) {
            x.thing(9, 100 + i, i);
        }
        x.promise(9, 8, 100, 40, 1 << 15);
        x.promise(8, 7, 90, 30, 1 << 15);
        x.steal(14);
        x.image();
        x.keep(1);
        x.breaks(0);
        x.steal(15);
        x.steal(13);
        x.days(1);
        due("two promises", x.undo(), 2);
        int[] thing = {9, 7, 115, 15, 2, 0};
        for (int what = 0; what < 6; what++) {
            due("of the last thing, what " + what, x.thingOf(15, what), thing[what]);
        }
        int[] promise = {8, 7, 90, 30, 0, 115, 1 << 15};
        for (int what = 0; what < 7; what++) {
            due("of the last promise, what " + what, x.promiseOf(1, what), promise[what]);
        }
        due("the first of its chain", x.chain(15, 0), 0);
        due("stolen", x.thingOf(14, 5), 1);
        due("not stolen", x.thingOf(13, 5), 0);
        due("kind of the last", x.personOf(9, 0), 5);
        due("harm of the last", x.personOf(9, 1), 114);
        due("harm of another", x.personOf(8, 1), 0);
        laterThanImage();
    }

    /** What comes in place of people, things and promises that undo() took. */
    private static void laterThanImage() {
        SpoonWords x = new SpoonWords();
        x.image();
        for (int kind : new int[] {4, 5}) {
            x.person(kind);
            x.person(kind);
        }
        x.thing(3, 50, 7);
        x.promise(3, 2, 9, 77, 1);
        due("a text behind it", tell(x, "pass 1"), 1);
        x.undo();
        x.person(2);
        x.person(2);
        x.thing(0, 8, 1);
        due("a promise in place of another", x.promise(0, 1, 8, 5, 1), 0);
        due("a text behind that", tell(x, "pass 1"), 1);
        int[] promise = {0, 1, 8, 5, 0, 8, 1};
        for (int what = 0; what < 7; what++) {
            due("of it, what " + what, x.promiseOf(0, what), promise[what]);
        }
        due("the image has none of it", x.undo(), 0);
    }

    private static void count() {
        SpoonWords x = chest(0, 16, 9999);
        says(40, "BEYOND: another what.");
        beyond("what", 0, 6, x::count);
        says(40, "0 PEOPLE, 1 THINGS, 2 PROMISES, 3 OPEN ones, 4 THE DAY, 5 bytes of THE TAPE, 6 BASES of all THINGS.");
        due("bases of all", x.count(6), 159984);
        due("things", x.count(1), 16);
        x.steal(0);
        due("a stolen one too", x.count(6), 159984);
        due("open ones", promised().count(3), 1);
        due("promises", promised().count(2), 24);
        due("the day", onDay(999).count(4), 999);
    }

    private static void status() {
        SpoonWords x = new SpoonWords();
        says(41, "BEYOND (counted from then on): another one.");
        int told = 0;
        for (int which : beside(-1, 6)) {
            due("findings so far", x.status(0), told);
            due("which " + which, x.status(which), BEYOND);
            told++;
        }
        due("all of them", x.status(-1), told);
        says(41, "How many acts answered a finding ever (undo() takes none back): which -1: all, 0 to 6: BEYOND to SIZE.");
        due("BEYOND", x.status(0), told);
        for (int which = 1; which <= 6; which++) {
            due("none of " + which, x.status(which), 0);
        }
        x.image();
        x.sheet(0, 8, -1);
        due("SIZE", x.status(6), 1);
        x.undo();
        due("none is taken back", x.status(6), 1);
        x.tear();
        x.undo();
        due("NONE", x.status(3), 1);
        x.read(0);
        due("MISSING", x.status(5), 1);
        due("all of these", x.status(-1), told + 3);
        x.town();
        due("a fault in a text is none", x.status(-1), told + 3);
        due("BEYOND still", x.status(0), told);
        due("SIZE still", x.status(6), 1);
    }
}
