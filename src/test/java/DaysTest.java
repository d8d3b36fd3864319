/** Promises 11 to 19, and how a DAY and a RELIEF go. */
public final class DaysTest {
    private static final Check check = new Check();

    public static void main(String[] args) {
        daysByHand();
        oilIsUsedBeforeItComes();
        oilIsHeld();
        whoComesAndGoes();
        whatIsTold();
        lastDays();
        now();
        on();
        oil();
        relief();
        ashore();
        knows();
        dark();
        meet();
        asFarAs200();
        check.end();
    }

    private static void daysByHand() {
        ReliefGales x = Check.with(0, 0);
        check.is("11 seven days", x.days(7), 0);
        check.is("11 two gales", x.now(4), 2);
        check.is("11 the relief", x.days(1), 1);
        check.is("11 DAY", x.now(0), 8);
        check.is("11 GALES after it", x.now(4), 0);
        check.is("11 OIL after it", x.now(2), 110);
        check.is("11 SINCE", x.of(0, 2), 8);
        check.is("11 nobody met", x.of(0, 4), 0);
        check.is("11 a second relief", x.days(11), 3);
        check.is("11 OIL after the second", x.now(2), 128);
        check.is("11 SINCE of the second", x.of(1, 2), 19);
        check.is("11 nobody is ashore", x.days(12), 3);
        check.is("11 GALES are 2 then", x.now(4), 2);
        check.is("11 OIL then", x.now(2), 80);
        x.days(3);
        check.is("11 GALES stay 2", x.now(4), 2);
        check.is("11 OIL goes on", x.now(2), 68);
        x.light(1, 3);
        x.days(1);
        check.is("11 less oil than used", x.now(2), 0);
        check.is("11 DARK", x.now(5), 1);
        x.light(1, 4);
        x.days(1);
        check.is("11 just enough oil", x.now(2), 0);
        check.is("11 not DARK", x.now(5), 1);
        String before = Check.seen(x);
        check.is("11 n below", x.days(0), Check.BEYOND);
        check.is("11 n above", x.days(101), Check.BEYOND);
        check.is("11 n far below", x.days(Integer.MIN_VALUE), Check.BEYOND);
        check.is("11 n far above", x.days(Integer.MAX_VALUE), Check.BEYOND);
        check.is("11 nothing changed", Check.seen(x), before);
        x.days(100);
        check.is("11 the most days", x.now(0), 136);
    }

    private static void oilIsUsedBeforeItComes() {
        ReliefGales x = Check.with(0, 0);
        x.set(0, 1, 1);
        Check.stormy(x, 1);
        x.light(1, 1);
        x.days(1);
        check.is("11 dark before the relief", x.now(5), 1);
        check.is("11 oil of the relief", x.now(2), 10);
    }

    private static void oilIsHeld() {
        ReliefGales x = Check.with(3);
        Check.stormy(x, 13);
        x.light(1, 9999 - 137);
        x.days(1);
        check.is("11 just 9999", x.now(2), 9999);
        ReliefGales y = Check.with(3);
        Check.stormy(y, 13);
        y.light(1, 9999 - 136);
        y.days(1);
        check.is("11 held to 9999", y.now(2), 9999);
    }

    private static void whoComesAndGoes() {
        ReliefGales x = Check.with(0, 0, 0, 0);
        x.days(1);
        x.set(0, 1, 0);
        Check.stormy(x, 1);
        check.is("11 least SINCE comes, the least of several", x.days(1), 2);
        check.is("11 the next", x.days(3), 6);
        check.is("11 the next for the longest ON", x.days(3), 12);
        check.is("11 SINCE of one that came", x.of(3, 2), 8);
        check.is("11 SINCE of one that went", x.of(1, 2), 8);
        check.is("11 MET of one that came", x.of(3, 4), 1);
        check.is("11 MET of one that went", x.of(1, 4), 1);
        check.is("11 MET of one that stayed", x.of(2, 4), 0);
        check.is("11 the one with the latest SINCE at last", x.days(3), 9);

        ReliefGales y = Check.with(0, 0, 0, 0);
        y.set(0, 1, 1);
        y.set(1, 1, 1);
        y.set(2, 1, 1);
        y.light(2, 1);
        Check.stormy(y, 1);
        check.is("11 one goes though more are ON than BEDS", y.days(1), 14);
        y.set(0, 4, 9999);
        y.set(1, 4, 9998);
        y.days(3);
        check.is("11 MET is held", y.of(0, 4), 9999);
        check.is("11 MET up to 9999", y.of(1, 4), 9999);
    }

    private static void whatIsTold() {
        ReliefGales x = Check.with(1, 3);
        x.light(2, 1);
        x.set(0, 1, 1);
        x.set(0, 3, 7);
        x.set(1, 3, 448);
        Check.stormy(x, 2);
        check.is("11 relieved", x.days(1), 2);
        check.is("11 a BROTHER told all three", x.of(1, 3), 455);
        check.is("11 a NEW told the least one", x.of(0, 3), 71);

        ReliefGales y = Check.with(2, 2);
        y.light(2, 1);
        y.set(0, 1, 1);
        y.set(0, 3, 0b000001111);
        y.set(1, 3, 0b110000101);
        Check.stormy(y, 13);
        y.days(1);
        check.is("11 the least that the other didn't know", y.of(1, 3), 0b110000111);
        check.is("11 and the other way", y.of(0, 3), 0b010001111);
    }

    private static void lastDays() {
        ReliefGales x = Check.with(0);
        Check.calm(x);
        x.set(0, 1, 1);
        x.light(1, 0);
        for (int i = 0; i < 99; i++) {
            x.days(100);
        }
        String before = Check.seen(x);
        check.is("11 DAY would be 10000", x.days(100), Check.STATE);
        check.is("11 BEYOND is asked before STATE", x.days(101), Check.BEYOND);
        check.is("11 nothing changed", Check.seen(x), before);
        check.is("11 STATE counted", x.status(4), 1);
        check.is("11 DAY becomes 9999", x.days(99), 1);
        check.is("11 DAY is 9999", x.now(0), 9999);
        check.is("11 the last day", x.days(1), Check.STATE);
        check.is("11 DARK", x.now(5), 9999);
        check.is("18 DARK is held and not more", x.dark(), Check.NONE);
        check.is("22 DARK is held and not more", x.enough(60), 0);
        x.light(1, 400);
        check.is("14 ON n DAYS go past the last", x.oil(200), 0);
        check.is("13 and change nothing", x.now(0), 9999);
    }

    private static void now() {
        ReliefGales x = Check.with(0, 3, 1);
        x.light(0, 12);
        x.light(2, 3);
        x.days(10);
        x.set(1, 1, 1);
        x.set(2, 1, 1);
        check.is("12 DAY", x.now(0), 10);
        check.is("12 ROCK", x.now(1), 12);
        check.is("12 OIL", x.now(2), 100);
        check.is("12 BEDS", x.now(3), 3);
        check.is("12 GALES", x.now(4), 1);
        check.is("12 DARK", x.now(5), 0);
        check.is("12 those ON", x.now(6), 6);
        check.is("12 what they USE", x.now(7), 5);
        x.light(1, 4);
        x.days(1);
        check.is("12 DARK then", x.now(5), 1);
        check.is("12 below", x.now(-1), Check.BEYOND);
        check.is("12 above", x.now(8), Check.BEYOND);
        check.is("12 counted", x.status(0), 2);
    }

    /** BEDS 1: 0 comes in 8 DAYS, 1 for it in 19, 0 for it in 31. */
    private static ReliefGales twoInTurn() {
        ReliefGales x = Check.with(1, 0);
        x.light(2, 1);
        x.set(0, 3, 7);
        x.set(1, 3, 448);
        return x;
    }

    private static void on() {
        ReliefGales x = twoInTurn();
        String before = Check.seen(x);
        check.is("13 now", x.on(0, 0, 0), 0);
        check.is("13 before the relief", x.on(0, 7, 0), 0);
        check.is("13 behind the relief", x.on(0, 8, 0), 1);
        check.is("13 before it goes", x.on(0, 18, 0), 1);
        check.is("13 it went", x.on(0, 19, 0), 0);
        check.is("13 WORDS now", x.on(1, 0, 1), 448);
        check.is("13 WORDS before", x.on(1, 18, 1), 448);
        check.is("13 WORDS behind", x.on(1, 19, 1), 455);
        check.is("13 MET before", x.on(0, 18, 2), 0);
        check.is("13 MET behind", x.on(0, 19, 2), 1);
        check.is("13 MET again", x.on(0, 31, 2), 2);
        x.on(1, 200, 2);
        check.is("13 no finding", x.status(-1), 0);
        check.is("13 keeper below", x.on(-1, 0, 0), Check.BEYOND);
        check.is("13 keeper above", x.on(2, 0, 0), Check.BEYOND);
        check.is("13 n below", x.on(0, -1, 0), Check.BEYOND);
        check.is("13 n above", x.on(0, 201, 0), Check.BEYOND);
        check.is("13 what below", x.on(0, 0, -1), Check.BEYOND);
        check.is("13 what above", x.on(0, 0, 3), Check.BEYOND);
        check.is("13 counted", x.status(0), 6);
        check.is("13 nothing changed", Check.seen(x), before);
    }

    private static void oil() {
        ReliefGales x = Check.with(0, 0);
        String before = Check.seen(x);
        check.is("14 now", x.oil(0), 100);
        check.is("14 before the relief", x.oil(7), 100);
        check.is("14 behind it", x.oil(8), 110);
        check.is("14 behind the second", x.oil(19), 128);
        check.is("14 later", x.oil(31), 80);
        check.is("14 most", x.oil(200), 0);
        check.is("14 n below", x.oil(-1), Check.BEYOND);
        check.is("14 n above", x.oil(201), Check.BEYOND);
        check.is("14 counted", x.status(0), 2);
        check.is("14 nothing changed", Check.seen(x), before);
    }

    private static void relief() {
        ReliefGales x = Check.with(0, 0);
        check.is("15 first", x.relief(), 8);
        x.days(7);
        check.is("15 today", x.relief(), 1);
        x.days(1);
        check.is("15 second", x.relief(), 11);
        x.days(11);
        String before = Check.seen(x);
        check.is("15 nobody is ashore", x.relief(), Check.NONE);
        check.is("15 counted", x.status(3), 1);
        check.is("15 nothing changed", Check.seen(x), before);
        ReliefGales y = Check.with(0);
        Check.calm(y);
        check.is("15 no gale", y.relief(), Check.NONE);
        y.sea(27, 12);
        check.is("15 one gale in 28 days", y.relief(), 84);
        check.is("15 without keepers", new ReliefGales().relief(), Check.NONE);
    }

    private static void ashore() {
        ReliefGales x = twoInTurn();
        check.is("16 now", x.ashore(0), 0);
        x.days(8);
        String before = Check.seen(x);
        check.is("16 relieved later", x.ashore(0), 11);
        check.is("16 keeper below", x.ashore(-1), Check.BEYOND);
        check.is("16 keeper above", x.ashore(2), Check.BEYOND);
        check.is("16 nothing changed", Check.seen(x), before);
        x.set(1, 1, 1);
        check.is("16 nobody to come", x.ashore(0), Check.NONE);
        check.is("16 BEYOND counted", x.status(0), 2);
        check.is("16 NONE counted", x.status(3), 1);
    }

    private static void knows() {
        ReliefGales x = twoInTurn();
        String before = Check.seen(x);
        check.is("17 now", x.knows(0, 2), 0);
        check.is("17 least word later", x.knows(1, 0), 19);
        check.is("17 greatest word later", x.knows(0, 8), 19);
        check.is("17 a word nobody knows", x.knows(0, 3), Check.NONE);
        check.is("17 keeper below", x.knows(-1, 0), Check.BEYOND);
        check.is("17 keeper above", x.knows(2, 0), Check.BEYOND);
        check.is("17 word below", x.knows(0, -1), Check.BEYOND);
        check.is("17 word above", x.knows(0, 9), Check.BEYOND);
        check.is("17 BEYOND counted", x.status(0), 4);
        check.is("17 NONE counted", x.status(3), 1);
        check.is("17 nothing changed", Check.seen(x), before);
    }

    private static void dark() {
        ReliefGales x = Check.with(0);
        Check.calm(x);
        check.is("18 nobody is ON", x.dark(), Check.NONE);
        x.set(0, 1, 1);
        x.light(1, 0);
        check.is("18 today", x.dark(), 1);
        x.light(1, 3);
        check.is("18 tomorrow", x.dark(), 2);
        x.light(1, 399);
        String before = Check.seen(x);
        check.is("18 on the last day", x.dark(), 200);
        check.is("18 nothing changed", Check.seen(x), before);
        x.light(1, 400);
        check.is("18 too late", x.dark(), Check.NONE);
        check.is("18 counted", x.status(3), 2);
        x.light(1, 0);
        x.days(5);
        x.light(1, 2);
        check.is("18 more than it is already", x.dark(), 2);
    }

    private static void meet() {
        ReliefGales x = Check.with(0, 0, 0);
        x.light(2, 1);
        String before = Check.seen(x);
        check.is("19 first two", x.meet(0, 1), 19);
        check.is("19 either way", x.meet(1, 0), 19);
        check.is("19 the next two", x.meet(1, 2), 31);
        check.is("19 the next two, either way", x.meet(2, 1), 31);
        check.is("19 the last two", x.meet(2, 0), 39);
        check.is("19 the last two, either way", x.meet(0, 2), 39);
        check.is("19 one and the same", x.meet(1, 1), Check.BEYOND);
        check.is("19 keeper below", x.meet(-1, 0), Check.BEYOND);
        check.is("19 keeper above", x.meet(3, 0), Check.BEYOND);
        check.is("19 other below", x.meet(0, -1), Check.BEYOND);
        check.is("19 other above", x.meet(0, 3), Check.BEYOND);
        check.is("19 nothing changed", Check.seen(x), before);
        x.light(2, 3);
        check.is("19 all have beds", x.meet(0, 1), Check.NONE);
        check.is("19 BEYOND counted", x.status(0), 5);
        check.is("19 NONE counted", x.status(3), 1);
    }

    /** One gale in 28 days; the third relief, 2 going down and 5 coming, is at the edge of 200 days. */
    private static void asFarAs200() {
        for (int place = 3; place <= 4; place++) {
            ReliefGales x = Check.with(0, 0, 0, 0, 0, 0);
            Check.calm(x);
            x.sea(place, 12);
            x.light(2, 3);
            x.light(3, 1);
            for (int k = 0; k < 3; k++) {
                x.set(k, 1, 1);
            }
            x.set(2, 3, 256);
            int due = place == 3 ? 200 : Check.NONE;
            check.is("16 at 200 and above", x.ashore(2), due);
            check.is("17 at 200 and above", x.knows(5, 8), due);
            check.is("19 at 200 and above", x.meet(5, 2), due);
            check.is("13 at 200", x.on(5, 200, 0), place == 3 ? 1 : 0);
            check.is("26 at 200", x.heard(8, 200), place == 3 ? 2 : 1);
        }
    }
}
