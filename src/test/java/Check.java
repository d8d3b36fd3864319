import java.util.ArrayList;
import java.util.List;

/** What the tests share: comparing answers, seeing the whole state, feeding texts. */
final class Check {
    static final int BEYOND = -1000000001;
    static final int FULL = -1000000002;
    static final int KIND = -1000000003;
    static final int NONE = -1000000004;
    static final int STATE = -1000000005;
    static final int MISSING = -1000000006;
    static final int SIZE = -1000000007;

    private int asked = 0;
    private int wrong = 0;

    void is(String what, long got, long want) {
        asked++;
        if (got != want) {
            wrong++;
            System.out.println("  " + what + ": answered " + got + ", due is " + want);
        }
    }

    void is(String what, Object got, Object want) {
        asked++;
        if (!got.equals(want)) {
            wrong++;
            System.out.println("  " + what + ": was " + got + ", due is " + want);
        }
    }

    /** Ends the test as .ci/run wants it. */
    void end() {
        System.out.println("  " + asked + " answers, " + wrong + " wrong");
        if (wrong > 0 || asked == 0) {
            System.exit(1);
        }
    }

    /** All that can be seen without changing it, status() left out. */
    static String seen(ReliefGales x) {
        List<Integer> all = new ArrayList<>();
        for (int what = 0; what <= 7; what++) {
            all.add(x.now(what));
        }
        for (int place = 0; place < 28; place++) {
            all.add(x.day(place, 0));
        }
        for (int what = 0; what <= 3; what++) {
            all.add(x.count(what));
        }
        for (int keeper = 0; keeper < x.count(0); keeper++) {
            for (int what = 0; what <= 5; what++) {
                all.add(x.of(keeper, what));
            }
        }
        return all.toString();
    }

    /** The numbers of a sheet of n, each written over and put back. */
    static String numbers(ReliefGales x, int s, int n) {
        List<Long> all = new ArrayList<>();
        for (int i = 0; i < n; i++) {
            long was = x.write(s, i, 0);
            x.write(s, i, was);
            all.add(was);
        }
        return all.toString();
    }

    static void feed(ReliefGales x, String text) {
        for (int i = 0; i < text.length(); i++) {
            x.feed(text.charAt(i), 1);
        }
    }

    /** As feed, in a fourth of the calls. */
    static void feedByFours(ReliefGales x, String text) {
        for (int at = 0; at < text.length(); at += 4) {
            int n = Math.min(4, text.length() - at);
            int bytes = 0;
            for (int i = 0; i < n; i++) {
                bytes = bytes << 8 | text.charAt(at + i) & 255;
            }
            x.feed(bytes, n);
        }
    }

    static int text(ReliefGales x, String text) {
        feed(x, text);
        return x.text();
    }

    /** Keepers 0, 1, .. of these kinds, ashore. */
    static ReliefGales with(int... kinds) {
        ReliefGales x = new ReliefGales();
        for (int kind : kinds) {
            x.keeper(kind);
        }
        return x;
    }

    /** No gale at all. */
    static void calm(ReliefGales x) {
        level(x, 0);
        x.light(0, 12);
    }

    /** Each day a gale of so many seconds, and a relief on the first. */
    static void stormy(ReliefGales x, int seconds) {
        level(x, 12);
        x.light(0, 13 - seconds);
        x.light(3, 2);
    }

    /** From DAY 0 on to a later one. */
    static void goToDay(ReliefGales x, int day) {
        for (int i = 0; i < day / 100; i++) {
            x.days(100);
        }
        if (day % 100 > 0) {
            x.days(day % 100);
        }
    }

    /** The sea is so high on every day. */
    static void level(ReliefGales x, int height) {
        for (int place = 0; place < 28; place++) {
            x.sea(place, height);
        }
    }

    /** KEEPERS 0 to 2, sheets of 5, 3 and 9 numbers and a MISSING one, a tape, an image. */
    static ReliefGales some() {
        ReliefGales x = with(0, 1, 2);
        x.set(1, 3, 37);
        x.set(2, 4, 6);
        x.image();
        x.days(10);
        x.sea(4, 11);
        x.light(1, 77);
        x.sheet(0, 16, 5);
        x.sheet(1, 16, 3);
        x.sheet(2, 8, 9);
        for (int i = 0; i < 3; i++) {
            x.write(0, i + 1, 1000 + i);
            x.write(1, i, 2000 + i);
            x.write(2, i + 5, 30 + i);
        }
        feedByFours(x, "oil 7;rock 3");
        x.sea(28, 0);
        return x;
    }

    static int[] statuses(ReliefGales x) {
        int[] all = new int[8];
        for (int which = -1; which <= 6; which++) {
            all[which + 1] = x.status(which);
        }
        return all;
    }

    /** All that is held, status() aside; what can only be seen by using it up is used up. */
    static String all(ReliefGales x) {
        StringBuilder all = new StringBuilder(seen(x));
        for (int s = 0; s < 4; s++) {
            for (int t = 0; t < s; t++) {
                all.append(" ").append(x.copy(s, 0, t, 0, 0));
            }
        }
        for (int s = 0; s < 4; s++) {
            int i = 0;
            long number = 0;
            for (; i < 41 && number != BEYOND && number != MISSING; i++) {
                number = x.write(s, i, 0x100010100L);
                all.append(i == 0 ? "\n" : " ").append(number);
            }
            all.append(" by bits ").append(x.write(s, 0, 0));
        }
        all.append("\ntape ").append(x.text()).append(seen(x));
        all.append("\nimage ").append(x.undo()).append(seen(x));
        return all.toString();
    }
}
