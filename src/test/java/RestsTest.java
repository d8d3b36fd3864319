/** What goes round: SEAS by 28, the lowest bits of numbers, quotients that are cut. */
public final class RestsTest {
    private static final Check check = new Check();

    public static void main(String[] args) {
        seasAtFirst();
        seaOfADay();
        daysGoRound();
        daysOnGoRound();
        stormGoesRound();
        numbersOf8Bits();
        numbersOf16Bits();
        numbersOf64Bits();
        bookInFewBits();
        laysOfFewBits();
        readOfFewBits();
        quotientsAreCut();
        bytesOfANumber();
        check.end();
    }

    /** "of place i at first the rest of 5 times i by 13". */
    private static void seasAtFirst() {
        int[] due = {0, 5, 10, 2, 7, 12, 4, 9, 1, 6, 11, 3, 8, 0, 5, 10, 2, 7, 12, 4, 9, 1, 6, 11, 3, 8, 0, 5};
        ReliefGales x = new ReliefGales();
        for (int i = 0; i < 28; i++) {
            check.is("2 place " + i, x.sea(i, 12), due[i]);
        }
    }

    /** "SEA of a day: that at its rest by 28". */
    private static void seaOfADay() {
        ReliefGales x = new ReliefGales();
        Check.level(x, 0);
        for (int place : new int[] {0, 1, 3, 27}) {
            x.sea(place, 9 + place % 4);
            for (int day = place; day <= 9999; day += 28 * 51) {
                check.is("3 SEA of day " + day, x.day(day, 0), 9 + place % 4);
                check.is("3 GALE of day " + day, x.day(day, 1), 1);
                check.is("3 SECONDS of day " + day, x.day(day, 2), 1 + place % 4);
            }
        }
        int[][] due = {{27, 12}, {28, 9}, {29, 10}, {55, 12}, {56, 9}, {9995, 12}, {9996, 9}, {9997, 10}, {9998, 0},
            {9999, 12}};
        for (int[] row : due) {
            check.is("3 SEA of day " + row[0], x.day(row[0], 0), row[1]);
        }
    }

    private static ReliefGales oneGaleAt(int place) {
        ReliefGales x = Check.with(0, 0);
        Check.calm(x);
        x.sea(place, 12);
        x.light(3, 2);
        return x;
    }

    private static void daysGoRound() {
        ReliefGales x = oneGaleAt(0);
        check.is("11 DAY 0", x.days(1), 1);
        check.is("11 to DAY 28", x.days(27), 1);
        x.light(3, 2);
        check.is("11 DAY 28 is as DAY 0", x.days(1), 3);
        ReliefGales y = oneGaleAt(27);
        check.is("11 before DAY 27", y.days(27), 0);
        check.is("11 DAY 27", y.days(1), 1);
        y.light(3, 2);
        check.is("11 before DAY 55", y.days(27), 1);
        check.is("11 DAY 55 is as DAY 27", y.days(1), 3);
    }

    private static void daysOnGoRound() {
        ReliefGales x = oneGaleAt(0);
        check.is("15 DAY 0", x.relief(), 1);
        x.days(1);
        x.light(3, 2);
        check.is("15 DAY 1 to 28", x.relief(), 28);
        check.is("13 not before", x.on(1, 27, 0), 0);
        check.is("13 then", x.on(1, 28, 0), 1);
        check.is("14 OIL", x.oil(28), 110 - 56 + 10);
        x.days(26);
        check.is("15 DAY 27", x.relief(), 2);
        x.days(1);
        check.is("15 DAY 28", x.relief(), 1);
        check.is("39 days of 28, whatever the DAY", x.count(3), 1);
    }

    /** The place is that of a day, and not how many days it is on. */
    private static void stormGoesRound() {
        ReliefGales x = oneGaleAt(10);
        x.days(20);
        x.set(0, 1, 0);
        x.light(3, 2);
        check.is("24 DAY 20", x.storm(), 20);
        x.days(7);
        check.is("24 DAY 27", x.storm(), 27);
        x.days(1);
        check.is("24 DAY 28", x.storm(), 0);
        x.days(1);
        check.is("24 DAY 29", x.storm(), 1);
        x.light(3, 1);
        check.is("24 a gale of DAY 29 to 37 before that of DAY 38", x.storm(), 1);
        x.days(9);
        check.is("24 a gale of DAY 39 behind that of DAY 38", x.storm(), 11);
    }

    private static long kept(int bits, long v) {
        ReliefGales x = new ReliefGales();
        x.sheet(0, bits, 1);
        x.write(0, 0, v);
        return x.write(0, 0, 0);
    }

    private static void numbersOf8Bits() {
        long[][] due = {{127, 127}, {128, -128}, {129, -127}, {255, -1}, {256, 0}, {257, 1}, {383, 127}, {384, -128},
            {-1, -1}, {-128, -128}, {-129, 127}, {-256, 0}, {-257, -1}, {Long.MAX_VALUE, -1}, {Long.MIN_VALUE, 0},
            {1L << 32, 0}, {(1L << 32) + 5, 5}};
        for (long[] row : due) {
            check.is("31 8 bits of " + row[0], kept(8, row[0]), row[1]);
        }
    }

    private static void numbersOf16Bits() {
        long[][] due = {{127, 127}, {128, 128}, {256, 256}, {32767, 32767}, {32768, -32768}, {65535, -1}, {65536, 0},
            {65537, 1}, {-1, -1}, {-32768, -32768}, {-32769, 32767}, {-65536, 0}, {Long.MAX_VALUE, -1},
            {Long.MIN_VALUE, 0}, {1L << 32, 0}};
        for (long[] row : due) {
            check.is("31 16 bits of " + row[0], kept(16, row[0]), row[1]);
        }
    }

    private static void numbersOf64Bits() {
        for (long v : new long[] {0, -1, 128, 32768, 65536, 1L << 31, 1L << 32, Long.MAX_VALUE, Long.MIN_VALUE,
            Check.BEYOND, Check.SIZE}) {
            check.is("31 64 bits of " + v, kept(64, v), v);
        }
    }

    private static void bookInFewBits() {
        int[][] due = {{127, 127}, {128, -128}, {255, -1}, {256, 0}, {9999, 15}};
        for (int[] row : due) {
            ReliefGales x = new ReliefGales();
            x.light(1, row[0]);
            x.sheet(0, 8, 1);
            x.sheet(1, 16, 1);
            x.book(0);
            x.book(1);
            check.is("34 8 bits of " + row[0], x.write(0, 0, 0), row[1]);
            check.is("34 16 bits of " + row[0], x.write(1, 0, 0), row[0]);
        }
    }

    private static void laysOfFewBits() {
        for (int bits : new int[] {8, 16, 64}) {
            ReliefGales x = new ReliefGales();
            x.sheet(0, bits, 3);
            x.write(0, 0, 256 + 12);
            x.write(0, 1, 65536 + 12);
            x.write(0, 2, -1);
            check.is("33 numbers as they are by " + bits, x.lays(0), bits == 8 ? 2 : bits == 16 ? 1 : 0);
            check.is("33 place 0", x.day(0, 0), bits == 8 ? 12 : 0);
            check.is("33 place 1", x.day(1, 0), bits == 64 ? 5 : 12);
            check.is("33 place 2", x.day(2, 0), 10);
        }
    }

    /** WORDS of 0 to 511 are what they are; a number of 8 bits goes no farther than 127. */
    private static void readOfFewBits() {
        int[][] due = {{8, 127, 6}, {8, 128, 0}, {8, 255, 0}, {8, 256, 6}, {16, 128, 6}, {16, 511, 6}, {16, 512, 0},
            {16, -1, 0}, {64, 511, 6}, {64, 512, 0}};
        for (int[] row : due) {
            ReliefGales x = Check.with(0);
            x.sheet(0, row[0], 1);
            x.write(0, 0, row[1]);
            check.is("35 " + row[1] + " in " + row[0] + " bits", x.read(0, 0), row[2]);
        }
    }

    /** "Quotients are cut". */
    private static void quotientsAreCut() {
        ReliefGales x = Check.with(2, 5);
        int[] thirds = {0, 0, 1, 1, 1, 2, 2, 2, 3, 3, 3, 4, 4};
        int[] halves = {5, 10, 15, 20, 25, 30, 35, 40, 45, 50, 55, 60, 65};
        for (int s = 1; s <= 13; s++) {
            check.is("7 MATE TELLS in " + s, x.can(1, 1, s), 1 + thirds[s - 1]);
            check.is("7 OLD BRINGS in " + s, x.can(0, 0, s), halves[s - 1]);
            check.is("7 MATE BRINGS in " + s, x.can(1, 0, s), 20 + halves[s - 1]);
        }
    }

    /** "the n lowest bytes of a number .., the highest of these first". */
    private static void bytesOfANumber() {
        String text = "oil7";
        int bytes = 'o' << 24 | 'i' << 16 | 'l' << 8 | '7';
        for (int n = 1; n <= 4; n++) {
            ReliefGales x = new ReliefGales();
            Check.feed(x, text.substring(0, 4 - n));
            check.is("27 " + n + " bytes", x.feed(n == 4 ? bytes : bytes & -1 >>> 32 - 8 * n | 0xff << 8 * n, n), 4);
            check.is("29 read", x.text(), 1);
            check.is("29 OIL", x.now(2), 7);
        }
        ReliefGales y = new ReliefGales();
        Check.feed(y, "oil 7");
        y.feed(0xff, 1);
        check.is("27 a byte of 255", y.text(), -6);
        y.feed(-1, 4);
        check.is("27 four of them", y.text(), -1);
    }
}
