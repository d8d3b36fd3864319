/** Promises 36 to 40. */
public final class ImagesTest {
    private static final Check check = new Check();

    public static void main(String[] args) {
        imageAndUndo();
        latestImage();
        tear();
        count();
        status();
        check.end();
    }

    private static void changeAll(ReliefGales x) {
        x.sea(4, 11);
        x.light(0, 3);
        x.light(1, 9);
        x.light(2, 3);
        x.light(3, 1);
        x.keeper(3);
        x.turn(0, 4);
        x.set(0, 1, 1);
        x.set(0, 3, 12);
        x.set(0, 4, 77);
        x.days(30);
    }

    private static void imageAndUndo() {
        ReliefGales x = Check.with(1, 2);
        x.days(20);
        x.sheet(0, 16, 1);
        String before = Check.seen(x);
        check.is("36 kept", x.image(), 1);
        check.is("36 nothing changed", Check.seen(x), before);
        changeAll(x);
        x.write(0, 0, 5);
        check.is("36 what is kept stays apart", Check.seen(x).equals(before) ? 1 : 0, 0);
        check.is("37 how many KEEPERS", x.undo(), 2);
        check.is("37 as it was", Check.seen(x), before);
        check.is("37 sheets stay", x.write(0, 0, 5), 5);
        Check.feed(x, "oil 3");
        check.is("37 it stays kept", x.undo(), 2);
        check.is("37 THE TAPE stays", x.count(1), 5);
        changeAll(x);
        x.undo();
        x.wipe();
        check.is("37 as it was again", Check.seen(x), before);
    }

    private static void latestImage() {
        ReliefGales x = new ReliefGales();
        x.image();
        x.keeper(0);
        x.image();
        x.keeper(0);
        check.is("37 the latest", x.undo(), 1);
        check.is("37 again the latest", x.undo(), 1);
        check.is("37 its KEEPERS", x.count(0), 1);
        x.keeper(3);
        x.set(1, 1, 1);
        x.set(1, 3, 8);
        x.set(1, 4, 8);
        x.undo();
        check.is("37 a new one comes behind", x.keeper(5), 1);
        int[] due = {5, 0, 0, 0, 0};
        for (int what = 0; what < due.length; what++) {
            check.is("37 and has nothing of another", x.of(1, what), due[what]);
        }
    }

    private static void tear() {
        ReliefGales x = Check.with(0);
        check.is("38 nothing was", x.tear(), 0);
        String before = Check.seen(x);
        check.is("37 nothing is kept", x.undo(), Check.NONE);
        check.is("37 nothing changed", Check.seen(x), before);
        x.image();
        x.image();
        check.is("38 something was", x.tear(), 1);
        check.is("38 once", x.tear(), 0);
        check.is("37 nothing is kept any more", x.undo(), Check.NONE);
        check.is("37 counted", x.status(3), 2);
        x.image();
        check.is("36 kept again", x.undo(), 1);
    }

    private static void count() {
        ReliefGales x = Check.with(0, 1, 2);
        x.set(0, 1, 1);
        x.set(2, 1, 1);
        Check.feed(x, "oil 3;");
        check.is("39 KEEPERS", x.count(0), 3);
        check.is("39 bytes", x.count(1), 6);
        check.is("39 those ON", x.count(2), 2);
        check.is("39 gale days", x.count(3), 8);
        x.light(0, 12);
        check.is("39 fewer", x.count(3), 2);
        x.light(0, 0);
        check.is("39 all", x.count(3), 28);
        x.days(5);
        check.is("39 whatever the DAY", x.count(3), 28);
        check.is("39 below", x.count(-1), Check.BEYOND);
        check.is("39 above", x.count(4), Check.BEYOND);
        check.is("39 counted", x.status(0), 2);
    }

    private static void status() {
        ReliefGales x = new ReliefGales();
        for (int which = -1; which <= 6; which++) {
            check.is("40 none at first", x.status(which), 0);
        }
        check.is("40 above", x.status(7), Check.BEYOND);
        check.is("40 counted from then on", x.status(0), 1);
        check.is("40 below", x.status(-2), Check.BEYOND);
        check.is("40 counted too", x.status(0), 2);
        x.image();
        for (int i = 0; i < 8; i++) {
            x.keeper(2);
        }
        x.keeper(2);
        x.as(0, 1);
        x.knows(0, 0);
        for (int i = 0; i < 99; i++) {
            x.days(100);
        }
        x.days(100);
        x.book(0);
        x.sheet(0, 8, -1);
        x.undo();
        x.tear();
        x.undo();
        Check.text(x, "oil");
        int[] due = {2, 1, 1, 2, 1, 1, 1};
        int all = 0;
        for (int which = 0; which <= 6; which++) {
            check.is("40 finding " + which, x.status(which), due[which]);
            all += due[which];
        }
        check.is("40 all", x.status(-1), all);
    }
}
