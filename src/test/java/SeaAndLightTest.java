/** Promises 1 to 4. */
public final class SeaAndLightTest {
    private static final Check check = new Check();

    public static void main(String[] args) {
        newObject();
        sea();
        day();
        light();
        check.end();
    }

    private static void newObject() {
        ReliefGales x = new ReliefGales();
        check.is("1 DAY", x.now(0), 0);
        check.is("1 ROCK", x.now(1), 9);
        check.is("1 OIL", x.now(2), 100);
        check.is("1 BEDS", x.now(3), 2);
        check.is("1 GALES", x.now(4), 0);
        check.is("1 DARK", x.now(5), 0);
        check.is("1 those ON", x.now(6), 0);
        check.is("1 what they USE", x.now(7), 0);
        check.is("1 KEEPERS", x.count(0), 0);
        check.is("1 bytes", x.count(1), 0);
        check.is("1 gale days", x.count(3), 8);
        for (int i = 0; i < 28; i++) {
            check.is("1 SEA " + i, x.day(i, 0), 5 * i % 13);
        }
        check.is("1 no finding", x.status(-1), 0);
        check.is("1 no image", x.undo(), Check.NONE);
        for (int s = 0; s < 4; s++) {
            check.is("1 sheet is MISSING", x.lays(s), Check.MISSING);
        }
    }

    private static void sea() {
        ReliefGales x = new ReliefGales();
        check.is("2 what it was", x.sea(5, 3), 12);
        check.is("2 it became", x.day(5, 0), 3);
        check.is("2 of a later day too", x.day(33, 0), 3);
        check.is("2 its neighbour did not", x.day(4, 0), 7);
        check.is("2 again", x.sea(5, 0), 3);
        check.is("2 least place", x.sea(0, 12), 0);
        check.is("2 greatest place", x.sea(27, 12), 5);
        String before = Check.seen(x);
        check.is("2 place below", x.sea(-1, 0), Check.BEYOND);
        check.is("2 place above", x.sea(28, 0), Check.BEYOND);
        check.is("2 v below", x.sea(3, -1), Check.BEYOND);
        check.is("2 v above", x.sea(3, 13), Check.BEYOND);
        check.is("2 far places", x.sea(Integer.MIN_VALUE, Integer.MAX_VALUE), Check.BEYOND);
        check.is("2 nothing changed", Check.seen(x), before);
        check.is("2 all counted", x.status(0), 5);
    }

    private static void day() {
        ReliefGales x = new ReliefGales();
        check.is("3 SEA", x.day(2, 0), 10);
        check.is("3 SEA 28 later", x.day(30, 0), 10);
        check.is("3 SEA of the last day", x.day(9999, 0), 5 * (9999 % 28) % 13);
        check.is("3 no GALE below ROCK", x.day(12, 1), 0);
        check.is("3 no SECONDS below ROCK", x.day(12, 2), 0);
        check.is("3 GALE at ROCK", x.day(7, 1), 1);
        check.is("3 SECONDS at ROCK", x.day(7, 2), 1);
        check.is("3 GALE above ROCK", x.day(5, 1), 1);
        check.is("3 SECONDS above ROCK", x.day(5, 2), 4);
        x.light(0, 0);
        check.is("3 the flat sea over a rock of 0", x.day(0, 2), 1);
        check.is("3 most SECONDS", x.day(5, 2), 13);
        check.is("3 day below", x.day(-1, 0), Check.BEYOND);
        check.is("3 day above", x.day(10000, 0), Check.BEYOND);
        check.is("3 what below", x.day(0, -1), Check.BEYOND);
        check.is("3 what above", x.day(0, 3), Check.BEYOND);
        check.is("3 counted", x.status(-1), 4);
    }

    private static void light() {
        ReliefGales x = new ReliefGales();
        int[] atFirst = {9, 100, 2, 0};
        int[] least = {0, 0, 1, 0};
        int[] most = {12, 9999, 3, 2};
        int[] shown = {1, 2, 3, 4};
        for (int what = 0; what < 4; what++) {
            check.is("4 what it was", x.light(what, most[what]), atFirst[what]);
            check.is("4 it became", x.now(shown[what]), most[what]);
            check.is("4 least", x.light(what, least[what]), most[what]);
            check.is("4 it became least", x.now(shown[what]), least[what]);
            String before = Check.seen(x);
            check.is("4 below", x.light(what, least[what] - 1), Check.BEYOND);
            check.is("4 above", x.light(what, most[what] + 1), Check.BEYOND);
            check.is("4 nothing changed", Check.seen(x), before);
        }
        check.is("4 what below", x.light(-1, 1), Check.BEYOND);
        check.is("4 what above", x.light(4, 1), Check.BEYOND);
        check.is("4 counted", x.status(0), 10);
    }
}
