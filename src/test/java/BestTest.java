/** Promises 20 to 26. */
public final class BestTest {
    private static final Check check = new Check();

    public static void main(String[] args) {
        rock();
        kind();
        enough();
        enoughWithAComing();
        enoughAtMost();
        beds();
        storm();
        change();
        changeBringsAnother();
        heard();
        eight();
        check.end();
    }

    private static void rock() {
        ReliefGales x = Check.with(0);
        String before = Check.seen(x);
        check.is("20 too soon", x.rock(2), Check.NONE);
        check.is("20 the least rock", x.rock(3), 0);
        check.is("20 seven days", x.rock(7), 7);
        check.is("20 eight days", x.rock(8), 9);
        check.is("20 33 days", x.rock(33), 11);
        check.is("20 34 days", x.rock(34), 12);
        check.is("20 most days", x.rock(100), 12);
        check.is("20 nothing changed", Check.seen(x), before);
        x.light(3, 2);
        check.is("20 with two gales behind one", x.rock(3), 10);
        check.is("20 today", x.rock(1), 0);
        x.light(3, 1);
        check.is("20 with one gale behind one", x.rock(3), 5);
        check.is("20 n below", x.rock(0), Check.BEYOND);
        check.is("20 n above", x.rock(101), Check.BEYOND);
        x.set(0, 1, 1);
        check.is("20 nobody is ashore", x.rock(100), Check.NONE);
        check.is("20 n is asked first", x.rock(101), Check.BEYOND);
        check.is("20 BEYOND counted", x.status(0), 3);
        check.is("20 NONE counted", x.status(3), 2);
    }

    /**
     * 0 tells 1 its only word, unless it is a NEW in one second; 1 would tell 2 just that word
     * then, and not the one that 2 tells 0 at last.
     */
    private static void kind() {
        ReliefGales x = Check.with(4, 0, 0);
        x.light(2, 1);
        x.set(0, 1, 1);
        x.set(0, 3, 0b000000001);
        x.set(1, 3, 0b110000000);
        x.set(2, 3, 0b010000000);
        Check.stormy(x, 1);
        String before = Check.seen(x);
        check.is("21 a NEW one learns most", x.kind(0, 7), 3);
        check.is("21 of several the least", x.kind(0, 6), 0);
        check.is("21 least n", x.kind(2, 1), 0);
        check.is("21 most n", x.kind(2, 100) >= 0 ? 1 : 0, 1);
        check.is("21 nothing changed", Check.seen(x), before);
        check.is("21 keeper below", x.kind(-1, 1), Check.BEYOND);
        check.is("21 keeper above", x.kind(3, 1), Check.BEYOND);
        check.is("21 n below", x.kind(0, 0), Check.BEYOND);
        check.is("21 n above", x.kind(0, 101), Check.BEYOND);
        check.is("21 counted", x.status(0), 4);
    }

    private static void enough() {
        ReliefGales x = Check.with(3, 3, 3, 3, 3, 3, 3, 3);
        Check.calm(x);
        check.is("22 nobody is ON", x.enough(60), 0);
        x.set(0, 1, 1);
        check.is("22 a day", x.enough(1), 3);
        check.is("22 most days", x.enough(60), 180);
        x.light(1, 0);
        x.days(3);
        check.is("22 whatever OIL and DARK are", x.enough(60), 180);
        for (int k = 1; k < 8; k++) {
            x.set(k, 1, 1);
        }
        String before = Check.seen(x);
        check.is("22 much", x.enough(41), 984);
        check.is("22 more than 999", x.enough(42), Check.NONE);
        check.is("22 n below", x.enough(0), Check.BEYOND);
        check.is("22 n above", x.enough(61), Check.BEYOND);
        check.is("22 nothing changed", Check.seen(x), before);
        check.is("22 BEYOND counted", x.status(0), 2);
        check.is("22 NONE counted", x.status(3), 1);
    }

    private static void enoughWithAComing() {
        ReliefGales x = Check.with(0, 0);
        x.set(0, 1, 1);
        Check.stormy(x, 1);
        check.is("22 before the relief", x.enough(1), 2);
        check.is("22 what comes is enough", x.enough(3), 2);
        check.is("22 and not for a day more", x.enough(4), 4);
    }

    private static void enoughAtMost() {
        ReliefGales x = Check.with(3, 3, 3, 3, 3, 3, 2, 0);
        Check.calm(x);
        for (int k = 0; k < 7; k++) {
            x.set(k, 1, 1);
        }
        x.sea(0, 12);
        x.light(3, 2);
        check.is("22 just 999", x.enough(56), 999);
        Check.calm(x);
        x.turn(6, 0);
        check.is("22 just 1000", x.enough(50), Check.NONE);
    }

    /** 0 knows two words, those between it and the last know them too and tell nothing. */
    private static void beds() {
        for (int between = 0; between <= 2; between++) {
            ReliefGales x = Check.with(1);
            x.set(0, 1, 1);
            x.set(0, 3, 3);
            for (int k = 1; k <= between; k++) {
                x.keeper(3);
                x.set(k, 3, 3);
            }
            x.keeper(3);
            Check.stormy(x, 1);
            String before = Check.seen(x);
            check.is("23 best with " + between, x.beds(1 + 3 * between), 1 + between);
            if (between > 0) {
                check.is("23 of several the fewest", x.beds(3 * between), 1);
            }
            check.is("23 nothing changed", Check.seen(x), before);
        }
        bedsForTheFirst();
        ReliefGales y = new ReliefGales();
        check.is("23 without keepers", y.beds(100), 1);
        check.is("23 n below", y.beds(0), Check.BEYOND);
        check.is("23 n above", y.beds(101), Check.BEYOND);
        check.is("23 counted", y.status(0), 2);
    }

    /** It is keeper 0 that learns, being the last to come. */
    private static void bedsForTheFirst() {
        ReliefGales x = Check.with(3, 1, 3);
        x.set(1, 1, 1);
        x.set(1, 3, 3);
        x.set(2, 3, 3);
        x.days(1);
        x.set(0, 1, 0);
        Check.stormy(x, 1);
        check.is("23 words of all, the first too", x.beds(4), 2);
    }

    private static void storm() {
        ReliefGales x = Check.with(0);
        String before = Check.seen(x);
        check.is("24 of several the least", x.storm(), 0);
        check.is("24 nothing changed", Check.seen(x), before);
        x.days(1);
        x.light(3, 2);
        check.is("24 today's", x.storm(), 1);
        x.days(1);
        check.is("24 it comes today as it is", x.storm(), Check.NONE);
        ReliefGales y = Check.with(0);
        Check.calm(y);
        check.is("24 no gale as it is", y.storm(), 0);
        y.days(27);
        check.is("24 the last place", y.storm(), 27);
        y.set(0, 1, 1);
        check.is("24 nobody is ashore", y.storm(), Check.NONE);
        check.is("24 counted", y.status(3), 1);
    }

    private static void change() {
        ReliefGales x = Check.with(0, 3, 3);
        Check.calm(x);
        check.is("25 nobody had best be ON", x.change(1), Check.NONE);
        x.set(0, 1, 1);
        check.is("25 the one that is ON", x.change(1), 0);
        x.set(1, 1, 1);
        x.set(2, 1, 1);
        String before = Check.seen(x);
        check.is("25 of several the least", x.change(1), 1);
        check.is("25 n below", x.change(0), Check.BEYOND);
        check.is("25 n above", x.change(61), Check.BEYOND);
        check.is("25 nothing changed", Check.seen(x), before);
        check.is("25 most n", x.change(60), Check.NONE);
        x.light(1, 1000);
        check.is("25 most n with oil", x.change(60), 1);
        check.is("25 BEYOND counted", x.status(0), 2);
        check.is("25 NONE counted", x.status(3), 2);
    }

    private static void changeBringsAnother() {
        ReliefGales x = Check.with(2, 3);
        Check.stormy(x, 13);
        x.oil(200);
        check.is("25 ON, that the other comes", x.change(1), 0);
        // Were SINCE kept, the NEW one, gone ashore, would come back at once with more oil.
        ReliefGales y = Check.with(3, 2);
        y.set(0, 1, 1);
        y.light(2, 1);
        y.days(1);
        Check.stormy(y, 13);
        y.light(1, 0);
        check.is("25 SINCE this DAY", y.change(1), Check.NONE);
        y.light(1, 3);
        check.is("25 what was used is more", y.change(1), 0);
    }

    /** With as many as there can be, no question goes beyond the last. */
    private static void eight() {
        ReliefGales x = Check.with(0, 1, 2, 3, 4, 5, 0, 1);
        for (int k = 0; k < 8; k++) {
            x.set(k, 3, 256 | 1 << k);
        }
        Check.calm(x);
        check.is("21 of eight", x.kind(7, 100), 0);
        check.is("23 of eight", x.beds(100), 1);
        check.is("25 of eight", x.change(60), Check.NONE);
        check.is("26 of eight", x.heard(8, 200), 8);
        check.is("26 the last of eight", x.heard(7, 0), 1);
        x.set(7, 1, 1);
        check.is("25 the last of eight", x.change(1), 7);
    }

    private static void heard() {
        ReliefGales x = Check.with(1, 0, 0);
        x.light(2, 1);
        x.set(0, 3, 256);
        x.set(2, 3, 1);
        String before = Check.seen(x);
        check.is("26 now", x.heard(8, 0), 1);
        check.is("26 least word", x.heard(0, 0), 1);
        check.is("26 before they met", x.heard(8, 18), 1);
        check.is("26 they met", x.heard(8, 19), 2);
        check.is("26 nobody", x.heard(4, 200), 0);
        check.is("26 word below", x.heard(-1, 0), Check.BEYOND);
        check.is("26 word above", x.heard(9, 0), Check.BEYOND);
        check.is("26 n below", x.heard(0, -1), Check.BEYOND);
        check.is("26 n above", x.heard(0, 201), Check.BEYOND);
        check.is("26 counted", x.status(0), 4);
        check.is("26 nothing changed", Check.seen(x), before);
    }
}
