import java.util.ArrayList;
import java.util.List;

/** What the tests share: comparing answers, seeing the whole state, feeding texts. */
final class Check {
    static final int BEYOND = -1000000001;
    static final int FULL = -1000000002;
    static final int KIND = -1000000003;
    static final int NONE = -1000000004;
    static final int STATE = -1000000005;
    static final int MISSING = -1000000006;
    static final int SIZE = -1000000007;

    private int asked = 0;
    private int wrong = 0;

    void is(String what, long got, long want) {
        asked++;
        if (got != want) {
            wrong++;
            System.out.println("  " + what + ": answered " + got + ", due is " + want);
        }
    }

    void is(String what, Object got, Object want) {
        asked++;
        if (!got.equals(want)) {
            wrong++;
            System.out.println("  " + what + ": was " + got + ", due is " + want);
        }
    }

    /** Ends the test as .ci/run wants it. */
    void end() {
        System.out.println("  " + asked + " answers, " + wrong + " wrong");
        if (wrong > 0 || asked == 0) {
            System.exit(1);
        }
    }

    /** All that can be seen without changing it, status() left out. */
    static String seen(ReliefGales x) {
        List<Integer> all = new ArrayList<>();
        for (int what = 0; what <= 7; what++) {
            all.add(x.now(what));
        }
        for (int place = 0; place < 28; place++) {
            all.add(x.day(place, 0));
        }
        for (int what = 0; what <= 3; what++) {
            all.add(x.count(what));
        }
        for (int keeper = 0; keeper < x.count(0); keeper++) {
            for (int what = 0; what <= 5; what++) {
                all.add(x.of(keeper, what));
            }
        }
        return all.toString();
    }

    /** The numbers of a sheet of n, each written over and put back. */
    static String numbers(ReliefGales x, int s, int n) {
        List<Long> all = new ArrayList<>();
        for (int i = 0; i < n; i++) {
            long was = x.write(s, i, 0);
            x.write(s, i, was);
            all.add(was);
        }
        return all.toString();
    }

    static void feed(ReliefGales x, String text) {
        for (int i = 0; i < text.length(); i++) {
            x.feed(text.charAt(i), 1);
        }
    }

    static int text(ReliefGales x, String text) {
        feed(x, text);
        return x.text();
    }

    /** Keepers 0, 1, .. of these kinds, ashore. */
    static ReliefGales with(int... kinds) {
        ReliefGales x = new ReliefGales();
        for (int kind : kinds) {
            x.keeper(kind);
        }
        return x;
    }

    /** The sea is so high on every day. */
    static void level(ReliefGales x, int height) {
        for (int place = 0; place < 28; place++) {
            x.sea(place, height);
        }
    }
}
