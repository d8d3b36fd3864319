/** What is empty (no KEEPERS, no bytes, no numbers, no image) and what is full (8, 120, 40). */
public final class EmptyAndFullTest {
    private static final Check check = new Check();

    public static void main(String[] args) {
        noKeepers();
        noKeepersDays();
        noKeepersBest();
        noOilForNobody();
        eightKeepers();
        eightRelieved();
        ninthInAText();
        emptyTape();
        fullTape();
        emptySheet();
        fullSheet();
        nothingKept();
        check.end();
    }

    private static void noKeepers() {
        ReliefGales x = new ReliefGales();
        check.is("12 those that are ON", x.now(6), 0);
        check.is("12 what they USE", x.now(7), 0);
        check.is("39 KEEPERS", x.count(0), 0);
        check.is("39 those that are ON", x.count(2), 0);
        check.is("26 nobody knows a word", x.heard(0, 0), 0);
        check.is("26 nor later", x.heard(8, 200), 0);
        x.sheet(0, 16, 0);
        check.is("35 no such one", x.read(0, 0), Check.BEYOND);
        check.is("36 it can be kept", x.image(), 1);
        x.keeper(0);
        check.is("37 how many KEEPERS", x.undo(), 0);
        check.is("37 none", x.count(0), 0);
        check.is("37 the first again", x.keeper(3), 0);
    }

    private static void noKeepersDays() {
        ReliefGales x = new ReliefGales();
        check.is("14 nobody uses oil", x.oil(200), 100);
        check.is("11 nobody is ON", x.days(100), 0);
        check.is("11 OIL", x.now(2), 100);
        check.is("11 GALES is 2 if nobody is ashore", x.now(4), 2);
        x.light(3, 0);
        Check.stormy(x, 1);
        x.light(3, 0);
        x.days(1);
        check.is("11 the first GALE", x.now(4), 1);
        x.days(1);
        check.is("11 the second", x.now(4), 2);
        x.days(1);
        check.is("11 the third", x.now(4), 2);
        x.keeper(0);
        check.is("11 one that came is relieved with", x.days(1), 1);
        check.is("11 GALES", x.now(4), 0);
    }

    private static void noKeepersBest() {
        ReliefGales x = new ReliefGales();
        check.is("15", x.relief(), Check.NONE);
        check.is("18", x.dark(), Check.NONE);
        check.is("20", x.rock(100), Check.NONE);
        check.is("22", x.enough(60), 0);
        check.is("23", x.beds(100), 1);
        check.is("24", x.storm(), Check.NONE);
        check.is("25", x.change(60), Check.NONE);
        check.is("34 a book of one OIL", x.sheet(0, 16, 3) + x.book(0), 6);
        check.is("34 all the same", Check.numbers(x, 0, 3), "[100, 100, 100]");
        check.is("29 a text makes the first", Check.text(x, "twin on"), 1);
        check.is("29 its number", x.of(0, 0), 4);
    }

    /** With nobody ON no oil is oil enough. */
    private static void noOilForNobody() {
        ReliefGales x = Check.with(0);
        Check.calm(x);
        x.light(1, 0);
        x.days(100);
        check.is("11 not DARK", x.now(5), 0);
        check.is("18 nor later", x.dark(), Check.NONE);
        check.is("22 0 is enough", x.enough(60), 0);
    }

    private static void eightKeepers() {
        ReliefGales x = new ReliefGales();
        for (int i = 0; i < 8; i++) {
            check.is("5 the number", x.keeper(5 - i % 6), i);
        }
        check.is("5 FULL", x.keeper(0), Check.FULL);
        check.is("39 KEEPERS", x.count(0), 8);
        for (int k = 0; k < 8; k++) {
            check.is("8 ON", x.set(k, 1, 1), 0);
            check.is("6 KIND", x.of(k, 0), 5 - k % 6);
        }
        check.is("12 all are ON", x.now(6), 255);
        check.is("39 all are ON", x.count(2), 8);
        check.is("11 all are ON", x.days(1), 255);
        check.is("8 all words", x.set(7, 3, 511), 0);
        check.is("26 of the last", x.heard(8, 0), 1);
        check.is("36 kept", x.image(), 1);
        check.is("37 all of them", x.undo(), 8);
        check.is("37 FULL still", x.keeper(0), Check.FULL);
        check.is("37 the last", x.of(7, 3), 511);
    }

    /** The last of eight comes when all before it have come. */
    private static void eightRelieved() {
        ReliefGales x = Check.with(0, 0, 0, 0, 0, 0, 0, 0);
        x.light(2, 1);
        Check.stormy(x, 1);
        for (int k = 0; k < 8; k++) {
            check.is("11 " + k + " comes", x.days(k == 0 ? 1 : 3), 1 << k);
        }
        check.is("11 and the first again", x.days(3), 1);
        check.is("19 the last two meet", x.meet(6, 7), 21);
    }

    private static void ninthInAText() {
        ReliefGales x = new ReliefGales();
        String eight = "old;".repeat(7) + "old";
        String before = Check.seen(x);
        check.is("29 a 9th at its own place", Check.text(x, eight + "; new on knows 1"), -1 - 33);
        check.is("29 none of nine came", Check.seen(x), before);
        check.is("29 eight", Check.text(x, eight), 8);
        check.is("29 KEEPERS", x.count(0), 8);
        String names = "keeper brother old new twin mate";
        for (String name : names.split(" ")) {
            check.is("29 " + name + " for a 9th", Check.text(x, "oil 5; " + name), -1 - 7);
        }
        check.is("29 a 9th before what stands behind it", Check.text(x, "mate !"), -1);
        check.is("29 a fault before a 9th", Check.text(x, "oil x;mate"), -5);
        check.is("29 OIL as it was", x.now(2), 100);
        check.is("29 ITEMS that are no KEEPERS", Check.text(x, "oil 5;rock 4"), 2);
        check.is("29 that is no finding", x.status(-1), 0);
        check.is("5 but this is", x.keeper(0), Check.FULL);
    }

    private static void emptyTape() {
        ReliefGales x = new ReliefGales();
        check.is("39 bytes", x.count(1), 0);
        check.is("28 how many it had", x.wipe(), 0);
        check.is("29 it ends too early", x.text(), -1);
        x.feed(' ', 1);
        check.is("29 a blank ends too early", x.text(), -2);
        check.is("29 empty then", x.wipe(), 0);
        check.is("40 no finding", x.status(-1), 0);
    }

    private static void fullTape() {
        for (int last = 1; last <= 4; last++) {
            ReliefGales x = new ReliefGales();
            Check.feedByFours(x, "oil 7" + " ".repeat(115 - last));
            check.is("27 room for " + last, x.count(1), 120 - last);
            for (int n = last + 1; n <= 4; n++) {
                check.is("27 no room for " + n, x.feed(-1, n), Check.FULL);
            }
            check.is("27 nothing of it came", x.count(1), 120 - last);
            check.is("27 just full", x.feed(0x20202020, last), 120);
            check.is("27 FULL", x.feed(0x20202020, 1), Check.FULL);
            check.is("39 bytes", x.count(1), 120);
            check.is("29 all of it is read", x.text(), 1);
            check.is("29 empty then", x.feed('o', 1), 1);
            Check.feedByFours(x, " ".repeat(119));
            check.is("28 how many it had", x.wipe(), 120);
            check.is("27 room again", x.feed(0x20202020, 4), 4);
        }
    }

    private static void emptySheet() {
        ReliefGales x = Check.with(0);
        for (int bits : new int[] {8, 16, 64}) {
            check.is("30 no numbers", x.sheet(0, bits, 0), 0);
            check.is("31 no such number", x.write(0, 0, 1), Check.BEYOND);
            check.is("32 none of none", x.copy(0, 0, 0, 0, 0), 0);
            check.is("32 one of none", x.copy(0, 0, 0, 0, 1), Check.BEYOND);
            check.is("32 from one on", x.copy(0, 1, 0, 0, 0), Check.BEYOND);
            check.is("33 none came", x.lays(0), 0);
            check.is("34 none", x.book(0), 0);
            check.is("35 all pairs make it", x.read(0, 0), 3072);
        }
        check.is("33 SEA stays", x.day(1, 0), 5);
    }

    private static void fullSheet() {
        for (int bits : new int[] {8, 16, 64}) {
            ReliefGales x = Check.with(0);
            check.is("30 40 numbers", x.sheet(3, bits, 40), 40);
            check.is("30 0 at first", x.write(3, 39, 7), 0);
            check.is("31 the last", x.write(3, 39, 8), 7);
            check.is("31 no other", x.write(3, 40, 7), Check.BEYOND);
            check.is("30 a second one", x.sheet(2, bits, 40), 40);
            check.is("32 all of them", x.copy(3, 0, 2, 0, 40), 40);
            check.is("32 the last came", x.write(2, 39, 0), 8);
            check.is("32 41 of them", x.copy(3, 0, 2, 0, 41), Check.BEYOND);
            check.is("32 all but the first", x.copy(3, 1, 2, 0, 40), Check.BEYOND);
            check.is("32 the last alone", x.copy(3, 39, 2, 0, 1), 1);
            check.is("32 it came", x.write(2, 0, 0), 8);
            check.is("33 28 of 40", x.lays(3), 28);
            check.is("34 all of them", x.book(3), 40);
            check.is("34 the last", x.write(3, 39, 0), 100);
            check.is("35 too many", x.read(3, 0), Check.SIZE);
            check.is("30 anew, all 0", x.sheet(3, bits, 40), 40);
            check.is("30 the first", x.write(3, 0, 0), 0);
            check.is("30 41 numbers", x.sheet(3, bits, 41), Check.BEYOND);
        }
    }

    private static void nothingKept() {
        ReliefGales x = Check.with(0);
        check.is("37 nothing", x.undo(), Check.NONE);
        check.is("38 nothing", x.tear(), 0);
        check.is("36", x.image(), 1);
        check.is("36 again", x.image(), 1);
        check.is("38 something", x.tear(), 1);
        check.is("38 nothing any more", x.tear(), 0);
        check.is("37 nothing any more", x.undo(), Check.NONE);
        check.is("37 KEEPERS stay", x.count(0), 1);
    }
}
