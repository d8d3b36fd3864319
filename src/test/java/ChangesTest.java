import java.util.Arrays;
import java.util.LinkedHashMap;
import java.util.Map;
import java.util.TreeSet;
import java.util.function.Supplier;

/** A question changes nothing; an act changes what its promise names and nothing else. */
public final class ChangesTest {
    private static final Check check = new Check();

    private interface Call {
        long ask(ReliefGales x);
    }

    public static void main(String[] args) {
        looks();
        questionsOfDays();
        questionsOfWhatIsBest();
        questionsBehindOthers();
        theSeaAndTheLight();
        keepers();
        days();
        texts();
        sheets();
        images();
        check.end();
    }

    /** Six KEEPERS of all KINDS who meet and tell; sheets, a tape, an image of another DAY. */
    private static ReliefGales busy() {
        ReliefGales x = Check.with(0, 1, 2, 3, 4, 5);
        x.image();
        x.days(3);
        for (int k = 0; k < 6; k++) {
            x.set(k, 3, 1 << k | 256);
            x.set(k, 4, 10 * k);
        }
        x.set(3, 1, 1);
        x.set(5, 1, 1);
        x.light(0, 6);
        x.light(1, 40);
        x.light(3, 1);
        x.sheet(0, 16, 4);
        x.sheet(1, 16, 2);
        x.sheet(2, 8, 1);
        x.write(0, 1, 258);
        x.write(1, 0, 7);
        x.write(1, 1, 6);
        x.write(2, 0, 5);
        Check.feedByFours(x, "oil 7;mate");
        x.sea(28, 0);
        return x;
    }

    private static ReliefGales withLittleOil() {
        ReliefGales x = busy();
        x.light(1, 4);
        return x;
    }

    private static void asks(String what, Call call) {
        asks(what, ChangesTest::busy, call);
    }

    private static void asks(String what, Supplier<ReliefGales> light, Call call) {
        ReliefGales asked = light.get();
        String counted = Arrays.toString(Check.statuses(asked));
        check.is(what + " is no finding", call.ask(asked) > -1000000000, true);
        check.is(what + " counts nothing", Arrays.toString(Check.statuses(asked)), counted);
        check.is(what + " changes nothing", Check.all(asked), Check.all(light.get()));
    }

    private static void looks() {
        for (int what = 0; what <= 7; what++) {
            int w = what;
            asks("12 now " + w, x -> x.now(w));
        }
        for (int what = 0; what <= 5; what++) {
            int w = what;
            asks("6 of " + w, x -> x.of(4, w));
        }
        for (int what = 0; what <= 3; what++) {
            int w = what;
            asks("39 count " + w, x -> x.count(w));
        }
        for (int what = 0; what <= 2; what++) {
            int w = what;
            asks("3 day " + w, x -> x.day(5, w));
        }
        asks("7 can BRING", x -> x.can(5, 0, 13));
        asks("7 can TELL", x -> x.can(5, 1, 13));
        asks("10 as", x -> x.as(4, 1));
        asks("40 status", x -> x.status(-1));
    }

    private static void questionsOfDays() {
        for (int what = 0; what <= 2; what++) {
            int w = what;
            asks("13 on " + w, x -> x.on(4, 200, w));
        }
        asks("14 oil", x -> x.oil(200));
        asks("15 relief", x -> x.relief());
        asks("16 ashore", x -> x.ashore(5));
        asks("17 knows", x -> x.knows(0, 3));
        asks("18 dark", ChangesTest::withLittleOil, x -> x.dark());
        asks("19 meet", x -> x.meet(0, 3));
        asks("26 heard", x -> x.heard(5, 200));
    }

    private static void questionsOfWhatIsBest() {
        asks("20 rock", x -> x.rock(100));
        for (int keeper = 0; keeper < 6; keeper++) {
            int k = keeper;
            asks("21 kind", x -> x.kind(k, 100));
            asks("35 read", x -> x.read(0, k));
            asks("35 read of 8 bits", x -> x.read(2, k));
        }
        asks("22 enough", x -> x.enough(60));
        asks("23 beds", x -> x.beds(100));
        asks("24 storm", x -> x.storm());
        asks("25 change", x -> x.change(60));
    }

    /** What a question played out does not come to the next one. */
    private static void questionsBehindOthers() {
        ReliefGales x = Check.with(0, 0, 0, 0, 0, 0, 0, 0);
        x.light(2, 1);
        x.set(0, 1, 1);
        Check.stormy(x, 1);
        int[] gone = {1, 4, 7, 10, 13, 16, 19, 22};
        for (int k = 0; k < 8; k++) {
            for (int n = 0; n <= 23; n++) {
                x.oil(n);
                check.is("19 behind oil(" + n + ")", x.meet(k, (k + 1) % 8), gone[k]);
            }
        }
        check.is("19 they meet a day after they are asked for", x.meet(1, 0), 1);
        check.is("19 and others not", x.meet(2, 0) == 1, false);
    }

    // ---- acts

    private static Map<String, Long> labelled(ReliefGales x) {
        Map<String, Long> all = new LinkedHashMap<>();
        String[] ofTheLight = {"DAY", "ROCK", "OIL", "BEDS", "GALES", "DARK", "ON", "USES"};
        for (int what = 0; what <= 7; what++) {
            all.put(ofTheLight[what], (long) x.now(what));
        }
        for (int place = 0; place < 28; place++) {
            all.put("SEA" + place, (long) x.day(place, 0));
        }
        all.put("bytes", (long) x.count(1));
        String[] ofOne = {"kind", "on", "since", "words", "met", "uses"};
        for (int k = 0; k < x.count(0); k++) {
            for (int what = 0; what <= 5; what++) {
                all.put(ofOne[what] + k, (long) x.of(k, what));
            }
        }
        for (int s = 0; s < 4; s++) {
            long was = 0;
            for (int i = 0; i < 8 && was > -1000000000; i++) {
                was = x.write(s, i, 0);
                x.write(s, i, was);
                all.put("sheet" + s + "." + i, was);
            }
        }
        return all;
    }

    /** What is another number behind the call, and the number that is due. */
    private static void acts(String what, Call call, long answer, Object... due) {
        ReliefGales x = busy();
        Map<String, Long> before = labelled(x);
        int counted = x.status(-1);
        check.is(what + ", the answer", call.ask(x), answer);
        int more = x.status(-1) - counted;
        Map<String, Long> behind = labelled(x);
        TreeSet<String> changed = new TreeSet<>();
        TreeSet<String> labels = new TreeSet<>(before.keySet());
        labels.addAll(behind.keySet());
        for (String label : labels) {
            if (!String.valueOf(before.get(label)).equals(String.valueOf(behind.get(label)))) {
                changed.add(label + "=" + behind.get(label));
            }
        }
        TreeSet<String> all = new TreeSet<>();
        for (int i = 0; i < due.length; i += 2) {
            all.add(due[i] + "=" + due[i + 1]);
        }
        check.is(what + ", what changed", changed, all);
        check.is(what + ", no finding", more, 0);
    }

    private static void theSeaAndTheLight() {
        acts("2 the first place", x -> x.sea(0, 12), 0, "SEA0", 12);
        acts("2 the last place", x -> x.sea(27, 0), 5, "SEA27", 0);
        acts("2 as it was", x -> x.sea(5, 12), 12);
        acts("4 ROCK", x -> x.light(0, 12), 6, "ROCK", 12);
        acts("4 OIL", x -> x.light(1, 9999), 40, "OIL", 9999);
        acts("4 BEDS", x -> x.light(2, 1), 2, "BEDS", 1);
        acts("4 GALES", x -> x.light(3, 2), 1, "GALES", 2);
        acts("4 as it was", x -> x.light(3, 1), 1);
    }

    private static void keepers() {
        acts("5 one more", x -> x.keeper(4), 6, "kind6", 4, "on6", 0, "since6", 3, "words6", 0, "met6", 0, "uses6", 2);
        acts("8 ON", x -> x.set(1, 1, 1), 0, "on1", 1, "since1", 3, "ON", 42, "USES", 7, "uses4", 1);
        acts("8 ashore", x -> x.set(5, 1, 0), 1, "on5", 0, "ON", 8, "USES", 3);
        acts("8 ashore again", x -> x.set(0, 1, 0), 0, "since0", 3);
        acts("8 WORDS", x -> x.set(5, 3, 0), 288, "words5", 0);
        acts("8 MET", x -> x.set(5, 4, 9999), 50, "met5", 9999);
        acts("9 another KIND", x -> x.turn(5, 2), 5, "kind5", 2, "uses5", 1, "USES", 4);
        acts("9 the same KIND", x -> x.turn(5, 5), 5);
    }

    /** GALES was 1, the seas of DAYS 4 and 5 are 7 and 12, ROCK is 6: 3 goes, and 0 comes on DAY 5. */
    private static void days() {
        acts("11 a calm DAY", x -> x.days(1), 40, "DAY", 4, "OIL", 35);
        acts("11 a GALE", x -> x.days(2), 40, "DAY", 5, "OIL", 30, "GALES", 2);
        acts("11 a relief", x -> x.days(3), 33, "DAY", 6, "OIL", 25 + 70, "GALES", 0, "ON", 33, "USES", 4,
            "on3", 0, "since3", 6, "met3", 31, "words3", 256 | 8 | 1,
            "on0", 1, "since0", 6, "met0", 1, "words0", 256 | 8 | 1);
    }

    private static void texts() {
        acts("27 three bytes", x -> x.feed(0x3b3b3b, 3), 13, "bytes", 13);
        acts("28 no bytes", x -> x.wipe(), 10, "bytes", 0);
        acts("29 two ITEMS", x -> x.text(), 2, "bytes", 0, "OIL", 7, "kind6", 5, "on6", 0, "since6", 3, "words6", 0,
            "met6", 0, "uses6", 2);
        acts("29 a FAULT", x -> x.feed('s', 1) * 0 + x.text(), -7, "bytes", 0);
    }

    private static void sheets() {
        acts("30 of other bits", x -> x.sheet(1, 64, 1), 1, "sheet1.0", 0, "sheet1.1", Check.BEYOND, "sheet1.2", null);
        acts("30 MISSING", x -> x.sheet(2, 0, 9), 0, "sheet2.0", Check.MISSING, "sheet2.1", null);
        acts("30 there", x -> x.sheet(3, 8, 1), 1, "sheet3.0", 0, "sheet3.1", Check.BEYOND);
        acts("31 a number", x -> x.write(0, 1, 65535), 258, "sheet0.1", -1);
        acts("32 to another", x -> x.copy(1, 0, 0, 2, 2), 2, "sheet0.2", 7, "sheet0.3", 6);
        acts("32 to itself", x -> x.copy(0, 0, 0, 1, 3), 3, "sheet0.1", 0, "sheet0.2", 258);
        acts("32 none", x -> x.copy(0, 4, 1, 2, 0), 0);
        acts("33 SEAS", x -> x.lays(1), 2, "SEA0", 7, "SEA1", 6);
        acts("33 but those beyond 12", x -> x.lays(0), 3, "SEA2", 0, "SEA3", 0);
        acts("34 a book", x -> x.book(0), 4, "sheet0.0", 40, "sheet0.1", 35, "sheet0.2", 30, "sheet0.3", 95);
    }

    private static void images() {
        acts("36 an image", x -> x.image(), 1);
        acts("38 none", x -> x.tear(), 1);
        ReliefGales x = busy();
        Map<String, Long> before = labelled(x);
        x.image();
        x.days(50);
        x.sea(3, 3);
        x.turn(2, 4);
        Check.text(x, ";keeper;beds 1");
        x.keeper(1);
        x.undo();
        Check.feedByFours(x, "oil 7;mate");
        check.is("37 all that section 1 tells", labelled(x), before);
        x.days(50);
        x.write(0, 0, 77);
        check.is("37 it stays", x.undo(), 6);
        before.put("sheet0.0", 77L);
        check.is("37 but sheets are as they were", labelled(x), before);
    }
}
