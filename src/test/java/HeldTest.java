/** What is "held to 9999" and "9999 at most", DAY 9999, and the last of the DAYS that are asked for. */
public final class HeldTest {
    private static final Check check = new Check();

    public static void main(String[] args) {
        darkIsHeld();
        metIsHeld();
        oilIsAtMost();
        oilIsAtMostOnDaysOn();
        lastDay();
        reliefOnTheLastDay();
        daysOnPastTheLast();
        imageOfTheLastDay();
        asFarAs200();
        oilAsFarAs200();
        oilOutAt200();
        rockAsFarAs84();
        kindAsFarAs100();
        enoughAsFarAs60();
        enoughIsAtMost999();
        bedsAsFarAs100();
        changeAsFarAs60();
        bookAsFarAs39();
        readAsFarAs7();
        check.end();
    }

    /** "DARK (.. held to 9999)": it takes 9999 DAYS to be so, so that it can't be more on a DAY. */
    private static void darkIsHeld() {
        ReliefGales x = Check.with(0);
        Check.calm(x);
        x.set(0, 1, 1);
        x.light(1, 0);
        Check.goToDay(x, 9998);
        check.is("DARK 9998", x.now(5), 9998);
        check.is("18 it can be more", x.dark(), 1);
        check.is("22 it can be more", x.enough(60), 120);
        x.days(1);
        check.is("DARK 9999", x.now(5), 9999);
        check.is("18 held", x.dark(), Check.NONE);
        check.is("22 held", x.enough(60), 0);
    }

    private static void metIsHeld() {
        for (int met = 9997; met <= 9999; met++) {
            ReliefGales x = Check.with(0, 0);
            x.light(2, 1);
            x.set(0, 1, 1);
            x.set(0, 4, met);
            x.set(1, 4, met);
            Check.stormy(x, 1);
            int due = Math.min(9999, met + 1);
            check.is("13 MET of one that goes", x.on(0, 1, 2), due);
            check.is("13 MET of one that comes", x.on(1, 1, 2), due);
            check.is("13 MET much later", x.on(0, 200, 2), 9999);
            x.days(1);
            check.is("MET of one that goes", x.of(0, 4), due);
            check.is("MET of one that comes", x.of(1, 4), due);
        }
    }

    /** "OIL is what it BRINGS .. more (9999 at most)". */
    private static void oilIsAtMost() {
        for (int kind = 0; kind < 6; kind++) {
            int brings = Check.with(kind).can(0, 0, 13);
            for (int more = -1; more <= 1; more++) {
                ReliefGales x = Check.with(kind);
                Check.stormy(x, 13);
                x.light(1, 9999 - brings + more);
                x.days(1);
                check.is("OIL with " + more + " more", x.now(2), more < 0 ? 9998 : 9999);
            }
        }
    }

    private static void oilIsAtMostOnDaysOn() {
        ReliefGales x = Check.with(3);
        Check.stormy(x, 13);
        x.light(1, 9999);
        x.sheet(0, 16, 3);
        x.book(0);
        check.is("34 OIL is held, and used from there", Check.numbers(x, 0, 3), "[9999, 9999, 9996]");
        check.is("14 OIL is held", x.oil(1), 9999);
        check.is("14 and used from there", x.oil(2), 9996);
        check.is("25 more than 9999 can't be", x.change(1), Check.NONE);
    }

    private static ReliefGales calmLight() {
        ReliefGales x = Check.with(0, 1);
        Check.calm(x);
        return x;
    }

    private static void lastDay() {
        ReliefGales x = calmLight();
        Check.goToDay(x, 9998);
        check.is("11 STATE from 9998 by 2", x.days(2), Check.STATE);
        check.is("11 DAY stays", x.now(0), 9998);
        check.is("11 to 9999 by 1", x.days(1), 0);
        check.is("11 DAY", x.now(0), 9999);
        check.is("11 STATE by 1", x.days(1), Check.STATE);
        check.is("11 STATE by 100", x.days(100), Check.STATE);
        check.is("11 DAY stays 9999", x.now(0), 9999);
        check.is("3 SEA of the last day", x.sea(3, 7) + x.day(9999, 0), 7);
        check.is("5 one that came then", x.keeper(2), 2);
        check.is("5 SINCE", x.of(2, 2), 9999);
        check.is("8 SINCE", x.set(0, 1, 1) + x.of(0, 2), 9999);
        check.is("29 one that came then", Check.text(x, "mate"), 1);
        check.is("29 SINCE", x.of(3, 2), 9999);
        check.is("40 STATE", x.status(4), 3);
    }

    private static void reliefOnTheLastDay() {
        ReliefGales x = calmLight();
        x.light(2, 1);
        Check.goToDay(x, 9998);
        x.set(0, 1, 1);
        Check.stormy(x, 1);
        check.is("11 relieved", x.days(1), 2);
        check.is("11 SINCE of one that came", x.of(1, 2), 9999);
        check.is("11 SINCE of one that went", x.of(0, 2), 9999);
        check.is("11 GALES", x.now(4), 0);
    }

    /** "n DAYS go on with all as it is": the 10000th too, whose SEA is that of place 4. */
    private static void daysOnPastTheLast() {
        ReliefGales x = calmLight();
        Check.goToDay(x, 9999);
        x.sea(4, 12);
        x.light(3, 2);
        x.set(0, 3, 5);
        check.is("15 the relief is behind one in 2", x.relief(), 2);
        check.is("13 ON", x.on(0, 2, 0), 1);
        check.is("13 not before", x.on(0, 1, 0), 0);
        check.is("14 OIL", x.oil(2), 110);
        check.is("24 today's is sooner", x.storm(), 3);
        check.is("20 within 2", x.rock(2), 12);
        check.is("26 words", x.heard(2, 200), 1);
        check.is("21 as what kind", x.kind(0, 100), 0);
        check.is("23 beds", x.beds(100), 1);
        check.is("40 no finding", x.status(-1), 0);
        check.is("12 DAY stays", x.now(0), 9999);
        check.is("12 OIL stays", x.now(2), 100);
    }

    private static void imageOfTheLastDay() {
        ReliefGales x = calmLight();
        x.image();
        Check.goToDay(x, 9999);
        String last = Check.seen(x);
        check.is("37 back from the last day", x.undo(), 2);
        check.is("37 DAY 0", x.now(0), 0);
        check.is("11 DAYS go again", x.days(100), 0);
        check.is("11 DAY 100", x.now(0), 100);
        ReliefGales y = calmLight();
        Check.goToDay(y, 9999);
        y.image();
        y.undo();
        check.is("37 the last day is kept", Check.seen(y), last);
        check.is("37 it is the last still", y.days(1), Check.STATE);
    }

    /** One gale in 28 days: the third relief, 2 going down and 5 coming, at the edge of 200 days. */
    private static void asFarAs200() {
        for (int place = 2; place <= 4; place++) {
            ReliefGales x = Check.with(0, 0, 0, 0, 0, 0);
            Check.calm(x);
            x.sea(place, 12);
            x.light(2, 3);
            x.light(3, 1);
            for (int k = 0; k < 3; k++) {
                x.set(k, 1, 1);
            }
            x.set(2, 3, 256);
            boolean in = place <= 3;
            int due = in ? 197 + place : Check.NONE;
            check.is("16 ashore at " + (197 + place), x.ashore(2), due);
            check.is("17 knows at " + (197 + place), x.knows(5, 8), due);
            check.is("19 meet at " + (197 + place), x.meet(2, 5), due);
            check.is("19 meet, either way", x.meet(5, 2), due);
            check.is("13 ON", x.on(5, 200, 0), in ? 1 : 0);
            check.is("13 not ON", x.on(2, 200, 0), in ? 0 : 1);
            check.is("13 WORDS", x.on(5, 200, 1), in ? 256 : 0);
            check.is("13 MET", x.on(5, 200, 2), in ? 1 : 0);
            check.is("26 how many", x.heard(8, 200), in ? 2 : 1);
        }
    }

    private static void oilAsFarAs200() {
        ReliefGales x = calmLight();
        x.set(0, 1, 1);
        x.light(1, 9999);
        check.is("14 0 DAYS ON", x.oil(0), 9999);
        check.is("14 1 DAY ON", x.oil(1), 9997);
        check.is("14 199 DAYS ON", x.oil(199), 9601);
        check.is("14 200 DAYS ON", x.oil(200), 9599);
    }

    private static void oilOutAt200() {
        ReliefGales x = calmLight();
        x.set(0, 1, 1);
        int[][] due = {{0, 1}, {1, 1}, {2, 2}, {397, 199}, {398, 200}, {399, 200}, {400, Check.NONE}};
        for (int[] row : due) {
            x.light(1, row[0]);
            check.is("18 with OIL " + row[0], x.dark(), row[1]);
        }
    }

    /** A relief that comes at all comes within 84 DAYS: three gales of one place. */
    private static void rockAsFarAs84() {
        ReliefGales x = calmLight();
        x.sea(27, 12);
        check.is("15 as late as can be", x.relief(), 84);
        check.is("20 within 84", x.rock(84), 12);
        check.is("20 within 83", x.rock(83), 0);
        check.is("20 within 100", x.rock(100), 12);
        check.is("20 within 3", x.rock(3), 0);
        check.is("20 within 2", x.rock(2), Check.NONE);
        x.sea(27, 0);
        check.is("20 every day a gale on a rock of 0", x.rock(100), 0);
        check.is("24 within 100", x.storm(), 0);
    }

    /** As in BestTest.kind, the last of the three reliefs on the 100th DAY. */
    private static void kindAsFarAs100() {
        ReliefGales x = Check.with(4, 0, 0);
        Check.calm(x);
        x.sea(15, 12);
        x.sea(20, 12);
        x.light(2, 1);
        x.light(3, 2);
        x.set(0, 1, 1);
        x.set(0, 3, 0b000000001);
        x.set(1, 3, 0b110000000);
        x.set(2, 3, 0b010000000);
        check.is("21 99 DAYS ON", x.kind(0, 99), 0);
        check.is("21 100 DAYS ON", x.kind(0, 100), 3);
    }

    private static void enoughAsFarAs60() {
        ReliefGales x = calmLight();
        x.turn(0, 3);
        x.set(0, 1, 1);
        check.is("22 1 DAY ON", x.enough(1), 3);
        check.is("22 59 DAYS ON", x.enough(59), 177);
        check.is("22 60 DAYS ON", x.enough(60), 180);
    }

    /** The first DAY uses 19 and brings 10, each DAY behind it uses 18: just 999 in 56 DAYS. */
    private static void enoughIsAtMost999() {
        int[][] due = {{999, 56}, {Check.NONE, 57}};
        for (int[] row : due) {
            ReliefGales x = Check.with(3, 3, 3, 3, 3, 3, 2, 0);
            Check.calm(x);
            for (int k = 0; k < 7; k++) {
                x.set(k, 1, 1);
            }
            x.sea(0, 12);
            x.light(3, 2);
            check.is("22 " + row[1] + " DAYS ON", x.enough(row[1]), row[0]);
        }
        ReliefGales y = Check.with(3, 3, 3, 3, 3, 3, 0, 0);
        Check.calm(y);
        for (int k = 0; k < 7; k++) {
            y.set(k, 1, 1);
        }
        check.is("22 just 980", y.enough(49), 980);
        check.is("22 1000 is too much", y.enough(50), Check.NONE);
    }

    /** As in BestTest.beds, the second relief on the 100th DAY. */
    private static void bedsAsFarAs100() {
        ReliefGales x = Check.with(1, 3, 3);
        Check.calm(x);
        x.sea(15, 12);
        x.light(3, 2);
        x.set(0, 1, 1);
        x.set(0, 3, 3);
        x.set(1, 3, 3);
        check.is("23 99 DAYS ON", x.beds(99), 1);
        check.is("23 100 DAYS ON", x.beds(100), 2);
    }

    /** On the 60th DAY an OLD one brings 60; a NEW one 127, if the OLD one is ON and uses 60. */
    private static void changeAsFarAs60() {
        ReliefGales x = Check.with(2, 3);
        Check.calm(x);
        x.light(0, 1);
        x.sea(3, 12);
        check.is("25 59 DAYS ON", x.change(59), Check.NONE);
        check.is("25 60 DAYS ON", x.change(60), 0);
    }

    private static void bookAsFarAs39() {
        ReliefGales x = calmLight();
        x.set(0, 1, 1);
        x.sheet(0, 64, 40);
        check.is("34 all", x.book(0), 40);
        check.is("34 0 DAYS ON", x.write(0, 0, 0), 100);
        check.is("34 1 DAY ON", x.write(0, 1, 0), 98);
        check.is("34 39 DAYS ON", x.write(0, 39, 0), 22);
        check.is("34 nothing else changes", x.now(2), 100);
    }

    /** 1 learns a word on the 7th DAY, which the eighth number tells. */
    private static void readAsFarAs7() {
        ReliefGales x = calmLight();
        x.light(2, 1);
        x.sea(6, 12);
        x.light(3, 2);
        x.set(0, 1, 1);
        x.set(0, 3, 4);
        x.sheet(0, 16, 8);
        check.is("35 it learns", x.read(0, 1), 0);
        x.write(0, 7, 4);
        check.is("35 just so", x.read(0, 1), 6);
        x.write(0, 6, 4);
        check.is("35 a day too soon", x.read(0, 1), 0);
    }
}
