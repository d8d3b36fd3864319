/** How a DAY and a RELIEF go, where they could just go otherwise: section 1 of the document. */
public final class ReliefEdgesTest {
    private static final Check check = new Check();

    public static void main(String[] args) {
        galeAtTheRock();
        galesUpToThree();
        nobodyAshore();
        oilJustEnough();
        oilIsUsedByThoseThatWereOn();
        bedsTaken();
        leastSinceComes();
        leastSinceGoes();
        oneThatComesDoesNotGo();
        sinceTheNextDay();
        meetOnlyIfOneGoes();
        wordsAsManyAsTold();
        wordsByWhatTheyKnew();
        secondsOfTheDay();
        twinBesideAnother();
        usesAsIfOn();
        setAgain();
        reliefBehindOne();
        ofSeveralTheLeast();
        moreThanAsItIs();
        soonerThanAsItIs();
        check.end();
    }

    /** "A day has a GALE, if its SEA is ROCK or higher; SECONDS of it: SEA less ROCK, and 1". */
    private static void galeAtTheRock() {
        for (int rock = 0; rock <= 12; rock++) {
            ReliefGales x = new ReliefGales();
            x.light(0, rock);
            for (int sea = 0; sea <= 12; sea++) {
                x.sea(sea, sea);
                boolean gale = sea >= rock;
                check.is("3 GALE of " + sea + " on " + rock, x.day(sea, 1), gale ? 1 : 0);
                check.is("3 SECONDS of " + sea + " on " + rock, x.day(sea, 2), gale ? sea - rock + 1 : 0);
            }
            Check.level(x, 0);
            x.sea(0, 12);
            check.is("39 days with a GALE on " + rock, x.count(3), rock == 0 ? 28 : 1);
        }
        for (int sea = 4; sea <= 6; sea++) {
            ReliefGales y = Check.with(0);
            Check.level(y, sea);
            y.light(0, 5);
            y.days(1);
            check.is("11 GALES by a sea of " + sea, y.now(4), sea >= 5 ? 1 : 0);
        }
    }

    /** "GALES is 1 more; if it is 3 then, and somebody is ashore, there is a relief and GALES is 0". */
    private static void galesUpToThree() {
        int[][] due = {{0, 1, 0}, {1, 2, 0}, {2, 0, 1}};
        for (int[] row : due) {
            ReliefGales x = Check.with(0);
            Check.stormy(x, 1);
            x.light(3, row[0]);
            check.is("15 with GALES " + row[0], x.relief(), 3 - row[0]);
            check.is("11 ON with GALES " + row[0], x.days(1), row[2]);
            check.is("11 GALES from " + row[0], x.now(4), row[1]);
            Check.calm(x);
            x.days(1);
            check.is("11 a calm day leaves GALES", x.now(4), row[1]);
        }
    }

    /** "if nobody is, GALES is 2". */
    private static void nobodyAshore() {
        ReliefGales x = Check.with(0, 0);
        x.set(0, 1, 1);
        x.set(1, 1, 1);
        Check.stormy(x, 1);
        check.is("11 nobody comes", x.days(1), 3);
        check.is("11 GALES", x.now(4), 2);
        check.is("11 OIL is not brought", x.now(2), 96);
        x.days(100);
        check.is("11 GALES much later", x.now(4), 2);
        x.set(0, 1, 0);
        check.is("15 the next gale brings it", x.relief(), 1);
        check.is("11 it does", x.days(1), 3);
        check.is("11 GALES then", x.now(4), 0);
    }

    /** "OIL is what they USE together less; if there is less, it is 0, and DARK 1 more". */
    private static void oilJustEnough() {
        int[][] due = {{0, 0, 1}, {4, 0, 1}, {5, 0, 0}, {6, 1, 0}};
        for (int[] row : due) {
            ReliefGales x = Check.with(0, 3);
            Check.calm(x);
            x.set(0, 1, 1);
            x.set(1, 1, 1);
            x.light(1, row[0]);
            check.is("14 OIL from " + row[0], x.oil(1), row[1]);
            check.is("18 DARK from " + row[0], x.dark(), row[2] == 1 ? 1 : 2);
            x.days(1);
            check.is("11 OIL from " + row[0], x.now(2), row[1]);
            check.is("11 DARK from " + row[0], x.now(5), row[2]);
        }
    }

    /** The oil is used before there is a relief, and by those that were ON before it. */
    private static void oilIsUsedByThoseThatWereOn() {
        ReliefGales x = Check.with(2, 3);
        x.light(2, 1);
        x.set(0, 1, 1);
        Check.stormy(x, 1);
        x.days(1);
        check.is("11 the OLD one used 1, the NEW one brought 17", x.now(2), 100 - 1 + 17);
        ReliefGales y = Check.with(2, 3);
        y.light(2, 1);
        y.light(1, 0);
        y.set(0, 1, 1);
        Check.stormy(y, 1);
        y.days(1);
        check.is("11 DARK though oil came", y.now(5), 1);
        check.is("11 OIL from 0 on", y.now(2), 17);
    }

    /** "If as many as BEDS (or more) were ON, of these the one .. goes ashore". */
    private static void bedsTaken() {
        for (int beds = 1; beds <= 3; beds++) {
            for (int on = 0; on <= 5; on++) {
                ReliefGales x = Check.with(0, 0, 0, 0, 0, 0);
                for (int k = 0; k < on; k++) {
                    x.set(k, 1, 1);
                }
                x.light(2, beds);
                Check.stormy(x, 1);
                int all = (1 << on + 1) - 1;
                check.is("11 " + on + " ON, BEDS " + beds, x.days(1), on >= beds ? all - 1 : all);
                check.is("11 MET", x.of(on, 4), on >= beds ? 1 : 0);
            }
        }
    }

    /** "of those ashore the one with the least SINCE (of several the least) comes ON". */
    private static void leastSinceComes() {
        int[][] sinces = {{0, 0, 0}, {0, 0, 1}, {1, 0, 0}, {0, 1, 0}, {1, 1, 0}, {2, 1, 1}, {2, 1, 0}, {0, 1, 2}};
        int[] due = {0, 0, 1, 0, 2, 1, 2, 0};
        for (int i = 0; i < due.length; i++) {
            ReliefGales x = withSinces(sinces[i], 0);
            Check.stormy(x, 1);
            check.is("11 who comes of row " + i, x.days(1), 1 << due[i]);
        }
    }

    private static void leastSinceGoes() {
        int[][] sinces = {{0, 0, 0}, {0, 0, 1}, {1, 0, 0}, {0, 1, 0}, {1, 1, 0}, {2, 1, 1}, {2, 1, 0}, {0, 1, 2}};
        int[] due = {0, 0, 1, 0, 2, 1, 2, 0};
        for (int i = 0; i < due.length; i++) {
            ReliefGales x = withSinces(sinces[i], 1);
            x.keeper(0);
            x.light(2, 3);
            Check.stormy(x, 1);
            check.is("11 who goes of row " + i, x.days(1), 15 - (1 << due[i]));
        }
    }

    /** One KEEPER for each SINCE (0 to 2), all ON or all ashore. */
    private static ReliefGales withSinces(int[] sinces, int on) {
        ReliefGales x = Check.with(0, 0, 0);
        Check.calm(x);
        for (int day = 0; day <= 2; day++) {
            for (int k = 0; k < 3; k++) {
                if (sinces[k] == day) {
                    x.set(k, 1, on);
                }
            }
            x.days(1);
        }
        return x;
    }

    /** "of these": the one that comes is none of them, though its SINCE is less. */
    private static void oneThatComesDoesNotGo() {
        ReliefGales x = Check.with(0, 0);
        x.light(2, 1);
        x.days(1);
        x.set(1, 1, 1);
        Check.stormy(x, 1);
        check.is("11 0 came, 1 went", x.days(1), 1);
        check.is("11 0 is ON", x.of(0, 1), 1);
        check.is("11 1 is ashore", x.of(1, 1), 0);
    }

    /** "SINCE of one that came or went is the next DAY". */
    private static void sinceTheNextDay() {
        ReliefGales x = Check.with(0, 0, 0);
        x.light(2, 1);
        x.set(0, 1, 1);
        Check.stormy(x, 1);
        x.days(1);
        check.is("11 one that came", x.of(1, 2), 1);
        check.is("11 one that went", x.of(0, 2), 1);
        check.is("11 another one", x.of(2, 2), 0);
        check.is("11 DAY", x.now(0), 1);
    }

    private static void meetOnlyIfOneGoes() {
        ReliefGales x = Check.with(0, 0);
        x.set(0, 1, 1);
        x.set(0, 3, 7);
        Check.stormy(x, 13);
        x.days(1);
        check.is("11 MET of one that stayed", x.of(0, 4), 0);
        check.is("11 MET of one that came", x.of(1, 4), 0);
        check.is("11 nothing is told", x.of(1, 3), 0);
        ReliefGales z = Check.with(0, 0);
        z.light(2, 1);
        z.set(0, 1, 1);
        z.set(0, 4, 5);
        z.set(1, 4, 50);
        Check.stormy(z, 1);
        z.days(1);
        check.is("11 MET of one that went is 1 more", z.of(0, 4), 6);
        check.is("11 MET of one that came is 1 more", z.of(1, 4), 51);
        ReliefGales y = Check.with(0, 0, 0);
        y.light(2, 2);
        y.set(0, 1, 1);
        y.set(1, 1, 1);
        Check.stormy(y, 1);
        check.is("19 the first goes", y.meet(2, 0), 1);
        check.is("19 the second later", y.meet(1, 0), 4);
        check.is("19 two that are ON together meet when one comes for the other", y.meet(1, 2), 7);
    }

    /** 0 goes and 1 comes, in so many SECONDS. */
    private static ReliefGales metIn(int seconds, int kindOf0, int words0, int kindOf1, int words1) {
        ReliefGales x = Check.with(kindOf0, kindOf1);
        x.light(2, 1);
        x.set(0, 1, 1);
        x.set(0, 3, words0);
        x.set(1, 3, words1);
        Check.stormy(x, seconds);
        x.days(1);
        return x;
    }

    /** "words that it knew and the other one didn't, the least first, as many as it TELLS". */
    private static void wordsAsManyAsTold() {
        int[] none = {0, 1, 3, 7, 15, 31, 63, 127, 255, 511, 511, 511, 511, 511};
        for (int s = 1; s <= 13; s++) {
            int[] tells = {s, 2 * s, 1, s - 1, 2 * s + 1, 1 + s / 3};
            for (int kind = 0; kind < 6; kind++) {
                int due = none[Math.min(9, tells[kind])];
                check.is("11 one that goes tells, kind " + kind, metIn(s, kind, 511, 0, 0).of(1, 3), due);
                check.is("11 one that comes tells, kind " + kind, metIn(s, 0, 0, kind, 511).of(0, 3), due);
            }
        }
        check.is("11 a NEW one in a second tells none", metIn(1, 3, 511, 0, 0).of(1, 3), 0);
        check.is("11 just as many as there are", metIn(3, 0, 0b101010000, 0, 0).of(1, 3), 0b101010000);
        check.is("11 one fewer than there are", metIn(2, 0, 0b101010000, 0, 0).of(1, 3), 0b001010000);
        check.is("11 the least first", metIn(1, 0, 0b101010000, 0, 0).of(1, 3), 0b000010000);
        check.is("11 that the other didn't know", metIn(1, 0, 0b101010000, 0, 0b000010000).of(1, 3), 0b001010000);
        check.is("11 words known are not told", metIn(2, 0, 0b111, 0, 0b001).of(1, 3), 0b111);
        check.is("11 all known already", metIn(13, 4, 511, 4, 511).of(1, 3), 511);
        check.is("11 the greatest word", metIn(1, 0, 256, 0, 255).of(1, 3), 511);
    }

    /** "(both by what they knew)". */
    private static void wordsByWhatTheyKnew() {
        ReliefGales x = metIn(1, 0, 0b000000010, 0, 0b000000101);
        check.is("11 to one that comes", x.of(1, 3), 0b000000111);
        check.is("11 to one that goes", x.of(0, 3), 0b000000011);
        ReliefGales y = metIn(2, 0, 0b000000001, 2, 0b000000100);
        check.is("11 not what was told just now", y.of(0, 3), 0b000000101);
        check.is("11 nor the other way", y.of(1, 3), 0b000000101);
        check.is("11 one that knows none", metIn(13, 1, 0, 1, 0b110).of(1, 3), 0b110);
    }

    /** Only the SECONDS of the relief's own day bring and tell. */
    private static void secondsOfTheDay() {
        ReliefGales x = Check.with(0);
        Check.calm(x);
        x.light(0, 6);
        x.sea(0, 12);
        x.sea(1, 12);
        x.sea(2, 8);
        x.sea(3, 12);
        x.days(3);
        check.is("11 three SECONDS", x.now(2), 130);
    }

    /** "less 1, if another one is ON that is BROTHER or of a KIND under it". */
    private static void twinBesideAnother() {
        int[] due = {2, 1, 2, 2, 1, 2};
        for (int kind = 0; kind < 6; kind++) {
            ReliefGales x = Check.with(4, kind);
            check.is("6 one of kind " + kind + " ashore", x.of(0, 5), 2);
            x.set(1, 1, 1);
            check.is("6 TWIN ashore, one of kind " + kind + " ON", x.of(0, 5), due[kind]);
            x.set(0, 1, 1);
            check.is("6 both ON, kind " + kind, x.of(0, 5), due[kind]);
            x.set(1, 1, 0);
            check.is("6 TWIN alone ON", x.of(0, 5), 2);
        }
        ReliefGales y = Check.with(4, 4, 4);
        for (int k = 0; k < 3; k++) {
            y.set(k, 1, 1);
        }
        check.is("12 three TWINS", y.now(7), 3);
        y.set(2, 1, 0);
        check.is("12 two TWINS", y.now(7), 2);
        y.set(1, 1, 0);
        check.is("12 one TWIN", y.now(7), 2);
        y.turn(2, 1);
        y.set(2, 1, 1);
        check.is("12 a TWIN and a BROTHER", y.now(7), 3);
    }

    /** "USES (as if it were ON) now". */
    private static void usesAsIfOn() {
        int[] due = {2, 2, 1, 3, 2, 2};
        for (int kind = 0; kind < 6; kind++) {
            ReliefGales x = Check.with(kind);
            check.is("6 ashore, kind " + kind, x.of(0, 5), due[kind]);
            check.is("12 nobody USES", x.now(7), 0);
            x.set(0, 1, 1);
            check.is("6 ON, kind " + kind, x.of(0, 5), due[kind]);
            check.is("12 it USES", x.now(7), due[kind]);
        }
    }

    /** "ON (what 1; SINCE this DAY then)": also if it was so already; SINCE of WORDS and MET stays. */
    private static void setAgain() {
        for (int on = 0; on <= 1; on++) {
            ReliefGales x = Check.with(0);
            Check.calm(x);
            x.set(0, 1, on);
            x.days(5);
            check.is("8 what it was", x.set(0, 1, on), on);
            check.is("8 SINCE this DAY", x.of(0, 2), 5);
            x.days(1);
            x.set(0, 3, 5);
            x.set(0, 4, 5);
            x.turn(0, 5);
            check.is("8 SINCE stays", x.of(0, 2), 5);
        }
    }

    /** "In how many DAYS (1 to 200) the next relief is behind one". */
    private static void reliefBehindOne() {
        ReliefGales x = Check.with(0, 0, 0);
        Check.stormy(x, 1);
        for (int i = 0; i < 3; i++) {
            int n = x.relief();
            check.is("15 relief " + i, n, i == 0 ? 1 : 3);
            check.is("13 nobody comes before", x.on(i, n - 1, 0), 0);
            check.is("13 one does then", x.on(i, n, 0), 1);
            x.days(n);
            check.is("11 GALES", x.now(4), 0);
        }
    }

    /** "of several the least", "of several the fewest". */
    private static void ofSeveralTheLeast() {
        ReliefGales x = Check.with(3, 3, 3);
        Check.calm(x);
        check.is("21 all KINDS are as good", x.kind(2, 100), 0);
        check.is("23 all BEDS are as good", x.beds(100), 1);
        for (int k = 2; k >= 0; k--) {
            x.set(k, 1, 1);
            check.is("25 all ON are as good", x.change(1), k);
        }
        ReliefGales y = Check.with(0);
        Check.calm(y);
        for (int gales = 0; gales <= 1; gales++) {
            y.light(3, gales);
            check.is("24 no place is sooner than the first", y.storm(), 0);
        }
        y.light(0, 3);
        y.sea(9, 3);
        check.is("24 the least of those before the gale", y.storm(), 0);
    }

    /** "more than as it is": as much is not enough. */
    private static void moreThanAsItIs() {
        ReliefGales x = Check.with(0, 0);
        Check.calm(x);
        x.light(1, 0);
        x.set(0, 1, 1);
        check.is("25 0 is not more than 0", x.change(60), Check.NONE);
        x.light(1, 1);
        check.is("25 1 is more than 0", x.change(60), 0);
        ReliefGales y = Check.with(0, 0);
        Check.stormy(y, 1);
        check.is("25 2 less, and as much brought", y.change(1), Check.NONE);
        y.turn(1, 5);
        check.is("25 2 less, and 15 more brought", y.change(1), 0);
    }

    /** "sooner than as it is": as soon is not enough. */
    private static void soonerThanAsItIs() {
        ReliefGales x = Check.with(0);
        Check.stormy(x, 1);
        check.is("24 today as it is", x.storm(), Check.NONE);
        x.light(3, 0);
        check.is("24 in three days as it is", x.storm(), Check.NONE);
        x.sea(2, 0);
        check.is("24 in four days as it is", x.storm(), 2);
        x.light(3, 1);
        check.is("24 in two days as it is", x.storm(), Check.NONE);
    }
}
