import java.util.Arrays;
import java.util.function.Supplier;

/**
 * Every finding of every act: at the least and the greatest of each range, one below and one above
 * it, in the order in which they are asked; each is counted once and changes nothing else.
 */
public final class FindingsTest {
    private static final Check check = new Check();

    private static final int BEYOND = Check.BEYOND;
    private static final int FULL = Check.FULL;
    private static final int KIND = Check.KIND;
    private static final int NONE = Check.NONE;
    private static final int STATE = Check.STATE;
    private static final int MISSING = Check.MISSING;
    private static final int SIZE = Check.SIZE;

    private interface Call {
        long ask(ReliefGales x);
    }

    private interface CallWith {
        long ask(ReliefGales x, int v);
    }

    public static void main(String[] args) {
        theirNumbers();
        theSeaAndTheLight();
        keeper();
        of();
        can();
        set();
        turn();
        as();
        days();
        now();
        on();
        oil();
        relief();
        ashore();
        knows();
        dark();
        meet();
        rock();
        kind();
        enough();
        beds();
        storm();
        change();
        heard();
        feed();
        sheet();
        write();
        copy();
        laysAndBook();
        read();
        undo();
        countAndStatus();
        neverAFinding();
        check.end();
    }

    // ---- lights to ask

    private static ReliefGales empty() {
        return new ReliefGales();
    }

    /** Eight KEEPERS, a tape of 120 bytes. */
    private static ReliefGales eight() {
        ReliefGales x = Check.with(0, 1, 2, 3, 4, 5, 0, 1);
        Check.feedByFours(x, "oil 7" + " ".repeat(115));
        return x;
    }

    private static ReliefGales calm() {
        ReliefGales x = Check.with(0, 1);
        Check.calm(x);
        return x;
    }

    private static ReliefGales nobodyAshore() {
        ReliefGales x = Check.with(0, 1);
        x.set(0, 1, 1);
        x.set(1, 1, 1);
        return x;
    }

    /** Eight NEW ones, all ON, and no gale. */
    private static ReliefGales crowded() {
        ReliefGales x = Check.with(3, 3, 3, 3, 3, 3, 3, 3);
        Check.calm(x);
        for (int k = 0; k < 8; k++) {
            x.set(k, 1, 1);
        }
        return x;
    }

    private static ReliefGales dayOf9950() {
        ReliefGales x = Check.with(0, 0);
        Check.goToDay(x, 9950);
        return x;
    }

    private static ReliefGales lastDay() {
        ReliefGales x = Check.with(0, 0);
        Check.goToDay(x, 9999);
        return x;
    }

    // ---- how they are asked

    private static void refused(String what, Supplier<ReliefGales> light, Call call, int finding) {
        ReliefGales asked = light.get();
        int[] due = Check.statuses(asked);
        due[0]++;
        due[1 + BEYOND - finding]++;
        check.is(what, call.ask(asked), finding);
        check.is(what + ", counted once", Arrays.toString(Check.statuses(asked)), Arrays.toString(due));
        check.is(what + ", nothing else changed", Check.all(asked), Check.all(light.get()));
    }

    private static void beyond(String what, Call call) {
        refused(what, Check::some, call, BEYOND);
    }

    /** The least and the greatest are not BEYOND; one below and one above are, and what is far off. */
    private static void range(String what, int least, int most, CallWith call) {
        for (int v : new int[] {least, most}) {
            check.is(what + " may be " + v, call.ask(Check.some(), v) == BEYOND, false);
        }
        for (int v : new int[] {least - 1, most + 1, Integer.MIN_VALUE, Integer.MAX_VALUE}) {
            beyond(what + " may not be " + v, x -> call.ask(x, v));
        }
    }

    // ---- promise by promise

    private static void theirNumbers() {
        check.is("BEYOND", new ReliefGales().sea(28, 0), -1000000001);
        check.is("FULL", eight().keeper(0), -1000000002);
        check.is("KIND", Check.some().as(0, 1), -1000000003);
        check.is("NONE", new ReliefGales().undo(), -1000000004);
        check.is("STATE", lastDay().days(1), -1000000005);
        check.is("MISSING", Check.some().lays(3), -1000000006);
        check.is("SIZE", Check.some().sheet(0, 8, -1), -1000000007);
        check.is("BEYOND in a long", Check.some().write(4, 0, 0), -1000000001L);
        check.is("MISSING in a long", Check.some().write(3, 0, 0), -1000000006L);
    }

    private static void theSeaAndTheLight() {
        range("2 place", 0, 27, (x, v) -> x.sea(v, 3));
        range("2 v", 0, 12, (x, v) -> x.sea(5, v));
        beyond("2 place and v", x -> x.sea(28, 13));
        for (int what = 0; what <= 2; what++) {
            int w = what;
            range("3 day", 0, 9999, (x, v) -> x.day(v, w));
        }
        range("3 what", 0, 2, (x, v) -> x.day(9, v));
        range("4 what", 0, 3, (x, v) -> x.light(v, 1));
        range("4 ROCK", 0, 12, (x, v) -> x.light(0, v));
        range("4 OIL", 0, 9999, (x, v) -> x.light(1, v));
        range("4 BEDS", 1, 3, (x, v) -> x.light(2, v));
        range("4 GALES", 0, 2, (x, v) -> x.light(3, v));
    }

    private static void keeper() {
        range("5 kind", 0, 5, (x, v) -> x.keeper(v));
        for (int kind = 0; kind < 6; kind++) {
            int k = kind;
            refused("5 a 9th of kind " + k, FindingsTest::eight, x -> x.keeper(k), FULL);
        }
        refused("5 kind below is asked before FULL", FindingsTest::eight, x -> x.keeper(-1), BEYOND);
        refused("5 kind above is asked before FULL", FindingsTest::eight, x -> x.keeper(6), BEYOND);
    }

    private static void of() {
        for (int what = 0; what <= 5; what++) {
            int w = what;
            range("6 keeper", 0, 2, (x, v) -> x.of(v, w));
            refused("6 no KEEPERS", FindingsTest::empty, x -> x.of(0, w), BEYOND);
            refused("6 a 9th", FindingsTest::eight, x -> x.of(8, w), BEYOND);
        }
        range("6 what", 0, 5, (x, v) -> x.of(1, v));
    }

    private static void can() {
        for (int what = 0; what <= 1; what++) {
            int w = what;
            range("7 keeper", 0, 2, (x, v) -> x.can(v, w, 1));
            range("7 s", 1, 13, (x, v) -> x.can(1, w, v));
            refused("7 no KEEPERS", FindingsTest::empty, x -> x.can(0, w, 1), BEYOND);
            refused("7 a 9th", FindingsTest::eight, x -> x.can(8, w, 1), BEYOND);
        }
        range("7 what", 0, 1, (x, v) -> x.can(1, v, 1));
    }

    private static void set() {
        for (int what : new int[] {1, 3, 4}) {
            range("8 keeper", 0, 2, (x, v) -> x.set(v, what, 1));
            refused("8 no KEEPERS", FindingsTest::empty, x -> x.set(0, what, 1), BEYOND);
            refused("8 a 9th", FindingsTest::eight, x -> x.set(8, what, 1), BEYOND);
        }
        range("8 ON", 0, 1, (x, v) -> x.set(1, 1, v));
        range("8 WORDS", 0, 511, (x, v) -> x.set(1, 3, v));
        range("8 MET", 0, 9999, (x, v) -> x.set(1, 4, v));
        for (int what : new int[] {-1, 0, 2, 5, Integer.MIN_VALUE, Integer.MAX_VALUE}) {
            beyond("8 what may not be " + what, x -> x.set(1, what, 1));
        }
    }

    private static void turn() {
        range("9 keeper", 0, 2, (x, v) -> x.turn(v, 3));
        range("9 kind", 0, 5, (x, v) -> x.turn(1, v));
        refused("9 no KEEPERS", FindingsTest::empty, x -> x.turn(0, 0), BEYOND);
        refused("9 a 9th", FindingsTest::eight, x -> x.turn(8, 0), BEYOND);
    }

    private static void as() {
        range("10 keeper", 0, 2, (x, v) -> x.as(v, 0));
        range("10 kind", 0, 5, (x, v) -> x.as(1, v));
        refused("10 no KEEPERS", FindingsTest::empty, x -> x.as(0, 0), BEYOND);
        refused("10 a 9th", FindingsTest::eight, x -> x.as(8, 0), BEYOND);
        int[] strangers = {0b111110, 0b111100, 0b111010, 0b110110, 0b101100, 0b011010};
        for (int k = 0; k < 6; k++) {
            for (int kind = 0; kind < 6; kind++) {
                int one = k;
                int other = kind;
                if ((strangers[k] >> kind & 1) == 1) {
                    refused("10 kind " + k + " as " + kind, FindingsTest::eight, x -> x.as(one, other), KIND);
                }
            }
        }
        beyond("10 no such one is asked before KIND", x -> x.as(3, 5));
    }

    private static void days() {
        range("11 n", 1, 100, (x, v) -> x.days(v));
        refused("11 DAY would be 10000", FindingsTest::dayOf9950, x -> x.days(50), STATE);
        refused("11 DAY would be 10050", FindingsTest::dayOf9950, x -> x.days(100), STATE);
        refused("11 DAY is 9999", FindingsTest::lastDay, x -> x.days(1), STATE);
        refused("11 DAY is 9999 and n 100", FindingsTest::lastDay, x -> x.days(100), STATE);
        refused("11 n below is asked before STATE", FindingsTest::lastDay, x -> x.days(0), BEYOND);
        refused("11 n above is asked before STATE", FindingsTest::lastDay, x -> x.days(101), BEYOND);
        ReliefGales x = dayOf9950();
        x.days(49);
        check.is("11 DAY may be 9999", x.now(0), 9999);
        check.is("11 that is no finding", x.status(-1), 0);
    }

    private static void now() {
        range("12 what", 0, 7, (x, v) -> x.now(v));
    }

    private static void on() {
        for (int what = 0; what <= 2; what++) {
            int w = what;
            range("13 keeper", 0, 2, (x, v) -> x.on(v, 5, w));
            range("13 n", 0, 200, (x, v) -> x.on(1, v, w));
            refused("13 no KEEPERS", FindingsTest::empty, x -> x.on(0, 0, w), BEYOND);
            refused("13 a 9th", FindingsTest::eight, x -> x.on(8, 0, w), BEYOND);
        }
        range("13 what", 0, 2, (x, v) -> x.on(1, 5, v));
    }

    private static void oil() {
        range("14 n", 0, 200, (x, v) -> x.oil(v));
    }

    private static void relief() {
        refused("15 no KEEPERS", FindingsTest::empty, x -> x.relief(), NONE);
        refused("15 no GALE", FindingsTest::calm, x -> x.relief(), NONE);
        refused("15 nobody is ashore", FindingsTest::nobodyAshore, x -> x.relief(), NONE);
    }

    private static void ashore() {
        range("16 keeper", 0, 2, (x, v) -> x.ashore(v));
        refused("16 no KEEPERS", FindingsTest::empty, x -> x.ashore(0), BEYOND);
        refused("16 a 9th", FindingsTest::eight, x -> x.ashore(8), BEYOND);
        refused("16 nobody comes for it", FindingsTest::nobodyAshore, x -> x.ashore(1), NONE);
        refused("16 BEYOND is asked before NONE", FindingsTest::nobodyAshore, x -> x.ashore(2), BEYOND);
    }

    private static void knows() {
        range("17 keeper", 0, 2, (x, v) -> x.knows(v, 0));
        range("17 word", 0, 8, (x, v) -> x.knows(1, v));
        refused("17 no KEEPERS", FindingsTest::empty, x -> x.knows(0, 0), BEYOND);
        refused("17 a 9th", FindingsTest::eight, x -> x.knows(8, 0), BEYOND);
        refused("17 nobody tells it", FindingsTest::calm, x -> x.knows(1, 8), NONE);
        refused("17 BEYOND is asked before NONE", FindingsTest::calm, x -> x.knows(1, 9), BEYOND);
    }

    private static void dark() {
        refused("18 no KEEPERS", FindingsTest::empty, x -> x.dark(), NONE);
        refused("18 nobody is ON", FindingsTest::calm, x -> x.dark(), NONE);
    }

    private static void meet() {
        range("19 keeper", 0, 2, (x, v) -> x.meet(v, 1));
        range("19 other", 0, 2, (x, v) -> x.meet(1, v));
        refused("19 no KEEPERS", FindingsTest::empty, x -> x.meet(0, 1), BEYOND);
        refused("19 a 9th", FindingsTest::eight, x -> x.meet(8, 0), BEYOND);
        refused("19 a 9th as the other", FindingsTest::eight, x -> x.meet(0, 8), BEYOND);
        for (int keeper : new int[] {-1, 0, 1, 2, 3}) {
            beyond("19 one and the same, " + keeper, x -> x.meet(keeper, keeper));
        }
        refused("19 they never do", FindingsTest::calm, x -> x.meet(0, 1), NONE);
        refused("19 BEYOND is asked before NONE", FindingsTest::calm, x -> x.meet(0, 0), BEYOND);
    }

    private static void rock() {
        range("20 n", 1, 100, (x, v) -> x.rock(v));
        refused("20 too soon", Check::some, x -> x.rock(2), NONE);
        refused("20 no KEEPERS", FindingsTest::empty, x -> x.rock(100), NONE);
        refused("20 nobody is ashore", FindingsTest::nobodyAshore, x -> x.rock(100), NONE);
        refused("20 n below is asked before NONE", FindingsTest::nobodyAshore, x -> x.rock(0), BEYOND);
        refused("20 n above is asked before NONE", FindingsTest::nobodyAshore, x -> x.rock(101), BEYOND);
    }

    private static void kind() {
        range("21 keeper", 0, 2, (x, v) -> x.kind(v, 1));
        range("21 n", 1, 100, (x, v) -> x.kind(1, v));
        refused("21 no KEEPERS", FindingsTest::empty, x -> x.kind(0, 1), BEYOND);
        refused("21 a 9th", FindingsTest::eight, x -> x.kind(8, 1), BEYOND);
    }

    private static void enough() {
        range("22 n", 1, 60, (x, v) -> x.enough(v));
        refused("22 more than 999", FindingsTest::crowded, x -> x.enough(60), NONE);
        refused("22 n below is asked before NONE", FindingsTest::crowded, x -> x.enough(0), BEYOND);
        refused("22 n above is asked before NONE", FindingsTest::crowded, x -> x.enough(61), BEYOND);
    }

    private static void beds() {
        range("23 n", 1, 100, (x, v) -> x.beds(v));
    }

    private static void storm() {
        refused("24 no KEEPERS", FindingsTest::empty, x -> x.storm(), NONE);
        refused("24 nobody is ashore", FindingsTest::nobodyAshore, x -> x.storm(), NONE);
    }

    private static void change() {
        range("25 n", 1, 60, (x, v) -> x.change(v));
        refused("25 no KEEPERS", FindingsTest::empty, x -> x.change(60), NONE);
        refused("25 none brings more", FindingsTest::calm, x -> x.change(60), NONE);
        refused("25 n below is asked before NONE", FindingsTest::calm, x -> x.change(0), BEYOND);
        refused("25 n above is asked before NONE", FindingsTest::calm, x -> x.change(61), BEYOND);
    }

    private static void heard() {
        range("26 word", 0, 8, (x, v) -> x.heard(v, 5));
        range("26 n", 0, 200, (x, v) -> x.heard(2, v));
    }

    private static void feed() {
        range("27 n", 1, 4, (x, v) -> x.feed(0x6f696c20, v));
        for (int n = 1; n <= 4; n++) {
            int bytes = n;
            refused("27 FULL by " + n, FindingsTest::eight, x -> x.feed(0x20202020, bytes), FULL);
        }
        refused("27 n below is asked before FULL", FindingsTest::eight, x -> x.feed(0, 0), BEYOND);
        refused("27 n above is asked before FULL", FindingsTest::eight, x -> x.feed(0, 5), BEYOND);
    }

    private static void sheet() {
        for (int bits : new int[] {8, 16, 64, 0}) {
            range("30 s", 0, 3, (x, v) -> x.sheet(v, bits, 5));
            check.is("30 no numbers of bits " + bits, Check.some().sheet(0, bits, 0), 0);
            check.is("30 40 numbers of bits " + bits, Check.some().sheet(0, bits, 40), bits == 0 ? 0 : 40);
            for (int n : new int[] {-1, Integer.MIN_VALUE}) {
                refused("30 n " + n + ", bits " + bits, Check::some, x -> x.sheet(0, bits, n), SIZE);
                beyond("30 s is asked before SIZE, bits " + bits, x -> x.sheet(4, bits, n));
            }
            for (int n : new int[] {41, Integer.MAX_VALUE}) {
                beyond("30 n " + n + ", bits " + bits, x -> x.sheet(0, bits, n));
            }
        }
        for (int bits : new int[] {-64, -8, -1, 1, 7, 9, 15, 17, 24, 32, 63, 65, 128, Integer.MIN_VALUE,
            Integer.MAX_VALUE}) {
            beyond("30 bits " + bits, x -> x.sheet(0, bits, 5));
            beyond("30 bits " + bits + " are asked before SIZE", x -> x.sheet(0, bits, -1));
        }
    }

    private static void write() {
        range("31 s", 0, 3, (x, v) -> x.write(v, 0, 1));
        range("31 i of 5", 0, 4, (x, v) -> x.write(0, v, 1));
        range("31 i of 9", 0, 8, (x, v) -> x.write(2, v, 1));
        for (int i : new int[] {-1, 0, 40, Integer.MIN_VALUE, Integer.MAX_VALUE}) {
            refused("31 MISSING is asked before the number", Check::some, x -> x.write(3, i, 1), MISSING);
            refused("31 a sheet of no numbers", FindingsTest::withEmptySheet, x -> x.write(3, i, 1), BEYOND);
        }
        beyond("31 s is asked before all", x -> x.write(4, -1, 1));
    }

    private static ReliefGales withEmptySheet() {
        ReliefGales x = Check.some();
        x.sheet(3, 16, 0);
        return x;
    }

    private static void copy() {
        range("32 s", 0, 3, (x, v) -> x.copy(v, 0, 1, 0, 1));
        range("32 t", 0, 3, (x, v) -> x.copy(1, 0, v, 0, 1));
        beyond("32 no such s is asked before MISSING", x -> x.copy(4, 0, 3, 0, 1));
        beyond("32 no such t is asked before MISSING", x -> x.copy(3, 0, 4, 0, 1));
        refused("32 from MISSING", Check::some, x -> x.copy(3, 0, 0, 0, 0), MISSING);
        refused("32 to MISSING", Check::some, x -> x.copy(0, 0, 3, 0, 0), MISSING);
        refused("32 MISSING to MISSING", Check::some, x -> x.copy(3, 0, 3, 0, 0), MISSING);
        refused("32 MISSING is asked before from, to, n", Check::some, x -> x.copy(0, -1, 3, -1, -1), MISSING);
        refused("32 other bits", Check::some, x -> x.copy(0, 0, 2, 0, 1), KIND);
        refused("32 other bits, none of them", Check::some, x -> x.copy(2, 0, 1, 0, 0), KIND);
        refused("32 KIND is asked before from, to, n", Check::some, x -> x.copy(0, -1, 2, -1, -1), KIND);
        refused("32 KIND is asked before too many", Check::some, x -> x.copy(0, 9, 2, 9, 9), KIND);
        range("32 from", 0, 4, (x, v) -> x.copy(0, v, 1, 0, 1));
        range("32 to", 0, 2, (x, v) -> x.copy(0, 0, 1, v, 1));
        range("32 n, as many as one has", 0, 5, (x, v) -> x.copy(0, 0, 0, 0, v));
        range("32 n, as many as the other has", 0, 3, (x, v) -> x.copy(0, 0, 1, 0, v));
        range("32 n, as many as it has", 0, 3, (x, v) -> x.copy(1, 0, 0, 0, v));
        range("32 from, none of them", 0, 5, (x, v) -> x.copy(0, v, 1, 0, 0));
        range("32 to, none of them", 0, 3, (x, v) -> x.copy(0, 0, 1, v, 0));
        int most = Integer.MAX_VALUE;
        beyond("32 from and n wrap around", x -> x.copy(0, most, 1, 0, most));
        beyond("32 to and n wrap around", x -> x.copy(0, 0, 1, most, most));
        beyond("32 all wrap around", x -> x.copy(0, most, 0, most, most));
    }

    private static void laysAndBook() {
        range("33 s", 0, 3, (x, v) -> x.lays(v));
        refused("33 MISSING", Check::some, x -> x.lays(3), MISSING);
        range("34 s", 0, 3, (x, v) -> x.book(v));
        refused("34 MISSING", Check::some, x -> x.book(3), MISSING);
    }

    private static void read() {
        range("35 s", 0, 3, (x, v) -> x.read(v, 0));
        range("35 keeper", 0, 2, (x, v) -> x.read(0, v));
        refused("35 MISSING", Check::some, x -> x.read(3, 0), MISSING);
        refused("35 MISSING is asked before keeper", Check::some, x -> x.read(3, 3), MISSING);
        refused("35 nine numbers", Check::some, x -> x.read(2, 0), SIZE);
        beyond("35 s is asked before all", x -> x.read(4, 3));
        beyond("35 keeper is asked before SIZE", x -> x.read(2, 3));
        beyond("35 keeper below is asked before SIZE", x -> x.read(2, -1));
        ReliefGales x = Check.some();
        x.sheet(2, 8, 8);
        check.is("35 eight numbers", x.read(2, 0), 6);
    }

    private static void undo() {
        refused("37 nothing was kept ever", FindingsTest::empty, x -> x.undo(), NONE);
        refused("37 it was torn", FindingsTest::torn, x -> x.undo(), NONE);
    }

    private static ReliefGales torn() {
        ReliefGales x = Check.some();
        x.tear();
        return x;
    }

    private static void countAndStatus() {
        range("39 what", 0, 3, (x, v) -> x.count(v));
        range("40 which", -1, 6, (x, v) -> x.status(v));
        ReliefGales x = new ReliefGales();
        check.is("40 the wrong one", x.status(7), BEYOND);
        check.is("40 is counted from then on", x.status(-1), 1);
        check.is("40 asking counts nothing", x.status(-1), 1);
    }

    /** What names no finding answers none, whatever there is. */
    private static void neverAFinding() {
        for (ReliefGales x : new ReliefGales[] {empty(), eight(), lastDay()}) {
            int before = x.status(-1);
            x.wipe();
            x.wipe();
            x.text();
            Check.text(x, "oil 10000");
            x.tear();
            x.tear();
            x.image();
            x.undo();
            check.is("28, 29, 36, 38 never answer a finding", x.status(-1), before);
        }
    }
}
