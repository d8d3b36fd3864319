/** Promises 30 to 35. */
public final class SheetsTest {
    private static final Check check = new Check();

    public static void main(String[] args) {
        sheet();
        write();
        copy();
        lays();
        book();
        read();
        readKinds();
        check.end();
    }

    private static void sheet() {
        ReliefGales x = new ReliefGales();
        check.is("30 of 8 bits", x.sheet(0, 8, 40), 40);
        check.is("30 of 16 bits", x.sheet(1, 16, 1), 1);
        check.is("30 of 64 bits", x.sheet(3, 64, 0), 0);
        check.is("30 of no numbers is not MISSING", x.lays(3), 0);
        check.is("30 the other one is MISSING", x.lays(2), Check.MISSING);
        x.write(1, 0, 9);
        check.is("30 anew", x.sheet(1, 16, 2), 2);
        check.is("30 all 0", Check.numbers(x, 1, 2), "[0, 0]");
        check.is("30 no more of them", x.write(1, 2, 0), Check.BEYOND);
        x.write(1, 0, 9);
        check.is("30 n below", x.sheet(1, 16, -1), Check.SIZE);
        check.is("30 n above", x.sheet(1, 16, 41), Check.BEYOND);
        check.is("30 n below with bits 0", x.sheet(1, 0, -1), Check.SIZE);
        check.is("30 n above with bits 0", x.sheet(1, 0, 41), Check.BEYOND);
        check.is("30 other bits", x.sheet(1, 32, 2), Check.BEYOND);
        check.is("30 bits are asked before n", x.sheet(1, 7, -1), Check.BEYOND);
        check.is("30 bits below", x.sheet(1, -8, 2), Check.BEYOND);
        check.is("30 no such sheet", x.sheet(4, 8, 2), Check.BEYOND);
        check.is("30 no such sheet is asked before n", x.sheet(-1, 8, -1), Check.BEYOND);
        check.is("30 nothing changed", Check.numbers(x, 1, 2), "[9, 0]");
        check.is("30 MISSING again", x.sheet(1, 0, 40), 0);
        check.is("30 it is", x.write(1, 0, 1), Check.MISSING);
        check.is("30 SIZE counted", x.status(6), 2);
        check.is("30 BEYOND counted", x.status(0), 8);
    }

    private static void write() {
        ReliefGales x = new ReliefGales();
        x.sheet(0, 8, 2);
        x.sheet(1, 16, 2);
        x.sheet(2, 64, 2);
        check.is("31 what it was", x.write(0, 0, 127), 0);
        check.is("31 what it became", x.write(0, 0, 128), 127);
        check.is("31 lowest 8 bits", x.write(0, 0, 0x1234567890AL), -128);
        check.is("31 lowest 8 bits again", x.write(0, 0, 255), 10);
        check.is("31 all 8 bits", x.write(0, 0, 0), -1);
        check.is("31 lowest 16 bits", x.write(1, 1, 0x12348000L), 0);
        check.is("31 with a sign", x.write(1, 1, 0xFFFF7FFFL), -32768);
        check.is("31 without", x.write(1, 1, 1), 32767);
        check.is("31 64 bits", x.write(2, 1, Long.MIN_VALUE), 0);
        check.is("31 all of them", x.write(2, 1, Long.MAX_VALUE), Long.MIN_VALUE);
        check.is("31 and the most", x.write(2, 1, 0), Long.MAX_VALUE);
        check.is("31 no finding by its number", x.write(2, 0, Check.NONE), 0);
        check.is("31 told as a number", x.write(2, 0, 5), Check.NONE);
        check.is("31 and not counted", x.status(-1), 0);
        check.is("31 no such sheet", x.write(-1, 0, 1), Check.BEYOND);
        check.is("31 no such sheet above", x.write(4, 0, 1), Check.BEYOND);
        check.is("31 MISSING is asked before the number", x.write(3, -1, 1), Check.MISSING);
        check.is("31 number below", x.write(2, -1, 1), Check.BEYOND);
        check.is("31 number above", x.write(2, 2, 1), Check.BEYOND);
        check.is("31 nothing changed", Check.numbers(x, 2, 2), "[5, 0]");
        check.is("31 BEYOND counted", x.status(0), 4);
        check.is("31 MISSING counted", x.status(5), 1);
    }

    private static ReliefGales numbered() {
        ReliefGales x = new ReliefGales();
        x.sheet(0, 16, 5);
        x.sheet(1, 16, 3);
        x.sheet(2, 8, 5);
        for (int i = 0; i < 5; i++) {
            x.write(0, i, i + 1);
        }
        return x;
    }

    private static void copy() {
        ReliefGales x = numbered();
        check.is("32 to another", x.copy(0, 2, 1, 0, 3), 3);
        check.is("32 they came", Check.numbers(x, 1, 3), "[3, 4, 5]");
        check.is("32 forward in itself", x.copy(0, 0, 0, 1, 4), 4);
        check.is("32 as they all were", Check.numbers(x, 0, 5), "[1, 1, 2, 3, 4]");
        check.is("32 backward in itself", x.copy(0, 2, 0, 0, 3), 3);
        check.is("32 as they were", Check.numbers(x, 0, 5), "[2, 3, 4, 3, 4]");
        check.is("32 none at the end", x.copy(0, 5, 1, 3, 0), 0);
        check.is("32 no finding", x.status(-1), 0);
        int most = Integer.MAX_VALUE;
        int[][] beyond = {{-1, 0, 1, 0, 1}, {0, 0, 4, 0, 1}, {4, 0, 3, 0, 1}, {3, 0, -1, 0, 1}, {0, -1, 1, 0, 1},
            {0, 0, 1, -1, 1}, {0, 0, 1, 0, -1}, {0, 3, 1, 0, 3}, {0, 0, 1, 1, 3}, {0, 6, 1, 0, 0}, {0, 0, 1, 4, 0},
            {0, most, 1, 0, 1}, {0, 0, 1, most, 1}, {0, 0, 1, 0, most}, {0, most, 1, most, most}, {0, 1, 0, 1, most}};
        for (int[] b : beyond) {
            check.is("32 beyond", x.copy(b[0], b[1], b[2], b[3], b[4]), Check.BEYOND);
        }
        check.is("32 from MISSING", x.copy(3, 0, 0, 0, 1), Check.MISSING);
        check.is("32 to MISSING", x.copy(0, 0, 3, 0, 1), Check.MISSING);
        check.is("32 MISSING is asked before the rest", x.copy(3, -1, 2, 9, -1), Check.MISSING);
        check.is("32 other bits", x.copy(0, 0, 2, 0, 1), Check.KIND);
        check.is("32 KIND is asked before the numbers", x.copy(2, -1, 0, 0, -1), Check.KIND);
        check.is("32 nothing changed", Check.numbers(x, 0, 5) + Check.numbers(x, 1, 3) + Check.numbers(x, 2, 5),
            "[2, 3, 4, 3, 4][3, 4, 5][0, 0, 0, 0, 0]");
        check.is("32 BEYOND counted", x.status(0), beyond.length);
        check.is("32 MISSING counted", x.status(5), 3);
        check.is("32 KIND counted", x.status(2), 2);
    }

    private static void lays() {
        ReliefGales x = new ReliefGales();
        x.sheet(0, 64, 40);
        for (int i = 0; i < 40; i++) {
            x.write(0, i, 12);
        }
        x.write(0, 0, 13);
        x.write(0, 1, -1);
        x.write(0, 2, 0);
        x.write(0, 3, 1L << 32);
        check.is("33 how many came", x.lays(0), 25);
        int[] first = {0, 5, 0, 2, 12};
        for (int i = 0; i < first.length; i++) {
            check.is("33 SEA " + i, x.day(i, 0), first[i]);
        }
        check.is("33 the last", x.day(27, 0), 12);
        x.write(0, 0, 12);
        check.is("33 the first too", x.lays(0), 26);
        check.is("33 SEA 0 then", x.day(0, 0), 12);
        check.is("33 of no numbers", x.sheet(1, 8, 0) + x.lays(1), 0);
        String before = Check.seen(x);
        check.is("33 no such sheet", x.lays(-1), Check.BEYOND);
        check.is("33 no such sheet above", x.lays(4), Check.BEYOND);
        check.is("33 MISSING", x.lays(2), Check.MISSING);
        check.is("33 nothing changed", Check.seen(x), before);
        check.is("33 BEYOND counted", x.status(0), 2);
        check.is("33 MISSING counted", x.status(5), 1);
    }

    private static void book() {
        ReliefGales x = Check.with(0, 0);
        x.sheet(0, 16, 10);
        x.sheet(1, 64, 0);
        String before = Check.seen(x);
        check.is("34 how many", x.book(0), 10);
        check.is("34 OIL by days", Check.numbers(x, 0, 10), "[100, 100, 100, 100, 100, 100, 100, 100, 110, 108]");
        check.is("34 none", x.book(1), 0);
        check.is("34 nothing else changed", Check.seen(x), before);
        x.sheet(2, 8, 2);
        x.light(1, 300);
        check.is("34 in 8 bits", x.book(2), 2);
        check.is("34 their lowest bits", Check.numbers(x, 2, 2), "[44, 44]");
        check.is("34 no such sheet", x.book(-1), Check.BEYOND);
        check.is("34 no such sheet above", x.book(4), Check.BEYOND);
        check.is("34 MISSING", x.book(3), Check.MISSING);
        check.is("34 BEYOND counted", x.status(0), 2);
        check.is("34 MISSING counted", x.status(5), 1);
    }

    private static void read() {
        ReliefGales x = Check.with(0);
        x.sheet(0, 16, 8);
        x.sheet(1, 16, 9);
        x.sheet(2, 64, 0);
        check.is("35 nobody to tell", x.read(0, 0), 6);
        check.is("35 of no numbers", x.read(2, 0), 3072);
        x.write(0, 0, 511);
        check.is("35 words are not forgotten", x.read(0, 0), 0);
        x.sheet(0, 16, 1);
        x.write(0, 0, 511);
        check.is("35 most WORDS", x.read(0, 0), 6);
        x.write(0, 0, 512);
        check.is("35 too many WORDS", x.read(0, 0), 0);
        x.write(0, 0, -1);
        check.is("35 too few", x.read(0, 0), 0);
        x.sheet(0, 64, 1);
        x.write(0, 0, 1L << 32);
        check.is("35 wide numbers", x.read(0, 0), 0);
        String before = Check.seen(x);
        check.is("35 too many numbers", x.read(1, 0), Check.SIZE);
        check.is("35 keeper is asked before SIZE", x.read(1, 1), Check.BEYOND);
        check.is("35 keeper below", x.read(0, -1), Check.BEYOND);
        check.is("35 MISSING is asked before keeper", x.read(3, 1), Check.MISSING);
        check.is("35 no such sheet", x.read(-1, 0), Check.BEYOND);
        check.is("35 no such sheet above", x.read(4, 0), Check.BEYOND);
        check.is("35 nothing changed", Check.seen(x), before);
        check.is("35 BEYOND counted", x.status(0), 4);
        check.is("35 MISSING counted", x.status(5), 1);
        check.is("35 SIZE counted", x.status(6), 1);
    }

    /** As in BestTest.kind: only as a NEW one does 0 know word 8 on the seventh day. */
    private static void readKinds() {
        ReliefGales x = Check.with(0, 0, 0);
        x.light(2, 1);
        x.set(0, 1, 1);
        x.set(1, 3, 0b110000000);
        x.set(2, 3, 0b010000000);
        Check.level(x, 12);
        x.light(0, 12);
        x.light(3, 2);
        x.sheet(0, 16, 8);
        x.write(0, 0, 1);
        for (int i = 1; i < 7; i++) {
            x.write(0, i, 0b010000001);
        }
        x.write(0, 7, 0b110000001);
        check.is("35 only a NEW one", x.read(0, 0), 1);
        x.write(0, 7, 0b010000001);
        check.is("35 all but a NEW one", x.read(0, 0), 5);
        x.write(0, 3, 1);
        check.is("35 none", x.read(0, 0), 0);
    }
}
