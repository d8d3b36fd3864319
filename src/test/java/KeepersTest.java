/** Promises 5 to 10. */
public final class KeepersTest {
    private static final Check check = new Check();

    public static void main(String[] args) {
        keeper();
        of();
        uses();
        can();
        set();
        turn();
        as();
        check.end();
    }

    private static void keeper() {
        ReliefGales x = new ReliefGales();
        x.days(3);
        check.is("5 kind below", x.keeper(-1), Check.BEYOND);
        check.is("5 kind above", x.keeper(6), Check.BEYOND);
        for (int i = 0; i < 8; i++) {
            check.is("5 the number", x.keeper(i % 6), i);
        }
        String before = Check.seen(x);
        check.is("5 a 9th", x.keeper(0), Check.FULL);
        check.is("5 BEYOND is asked before FULL", x.keeper(6), Check.BEYOND);
        check.is("5 nothing changed", Check.seen(x), before);
        check.is("5 KIND", x.of(7, 0), 1);
        check.is("5 ashore", x.of(7, 1), 0);
        check.is("5 SINCE", x.of(7, 2), 3);
        check.is("5 WORDS", x.of(7, 3), 0);
        check.is("5 MET", x.of(7, 4), 0);
        check.is("5 BEYOND counted", x.status(0), 3);
        check.is("5 FULL counted", x.status(1), 1);
    }

    private static void of() {
        ReliefGales x = Check.with(0, 5);
        x.days(2);
        x.set(1, 1, 1);
        x.set(1, 3, 37);
        x.set(1, 4, 6);
        check.is("6 KIND", x.of(1, 0), 5);
        check.is("6 ON", x.of(1, 1), 1);
        check.is("6 SINCE", x.of(1, 2), 2);
        check.is("6 WORDS", x.of(1, 3), 37);
        check.is("6 MET", x.of(1, 4), 6);
        check.is("6 USES", x.of(1, 5), 2);
        check.is("6 of the other", x.of(0, 3), 0);
        check.is("6 keeper below", x.of(-1, 0), Check.BEYOND);
        check.is("6 keeper above", x.of(2, 0), Check.BEYOND);
        check.is("6 keeper far above", x.of(8, 0), Check.BEYOND);
        check.is("6 what below", x.of(0, -1), Check.BEYOND);
        check.is("6 what above", x.of(0, 6), Check.BEYOND);
        check.is("6 counted", x.status(0), 5);
    }

    private static void uses() {
        ReliefGales x = Check.with(0, 1, 2, 3, 4, 5);
        int[] due = {2, 2, 1, 3, 2, 2};
        for (int k = 0; k < 6; k++) {
            check.is("6 USES of kind " + k, x.of(k, 5), due[k]);
        }
        x.set(4, 1, 1);
        check.is("6 a TWIN alone is no other one", x.of(4, 5), 2);
        for (int k = 0; k < 6; k++) {
            x.set(k, 1, k == 1 ? 0 : 1);
        }
        check.is("6 KEEPER, OLD, NEW and MATE are no brothers", x.of(4, 5), 2);
        x.set(1, 1, 1);
        check.is("6 TWIN beside a BROTHER", x.of(4, 5), 1);
        check.is("6 BROTHER beside a TWIN", x.of(1, 5), 2);
        ReliefGales y = Check.with(4, 4);
        y.set(0, 1, 1);
        check.is("6 TWIN ashore beside a TWIN", y.of(1, 5), 1);
        check.is("6 TWIN ON beside nobody", y.of(0, 5), 2);
        y.set(1, 1, 1);
        check.is("6 both less", y.now(7), 2);
    }

    private static void can() {
        ReliefGales x = Check.with(0, 1, 2, 3, 4, 5);
        for (int s = 1; s <= 13; s++) {
            int[] brings = {10 * s, 10 * s, 5 * s, 10 * s + 7, 10 * s, 5 * s + 20};
            int[] tells = {s, 2 * s, 1, s - 1, 2 * s + 1, 1 + s / 3};
            for (int k = 0; k < 6; k++) {
                check.is("7 BRINGS of kind " + k, x.can(k, 0, s), brings[k]);
                check.is("7 TELLS of kind " + k, x.can(k, 1, s), tells[k]);
            }
        }
        check.is("7 keeper below", x.can(-1, 0, 1), Check.BEYOND);
        check.is("7 keeper above", x.can(6, 0, 1), Check.BEYOND);
        check.is("7 what below", x.can(0, -1, 1), Check.BEYOND);
        check.is("7 what above", x.can(0, 2, 1), Check.BEYOND);
        check.is("7 s below", x.can(0, 0, 0), Check.BEYOND);
        check.is("7 s above", x.can(0, 0, 14), Check.BEYOND);
        check.is("7 counted", x.status(0), 6);
    }

    private static void set() {
        ReliefGales x = Check.with(0, 1);
        x.days(4);
        check.is("8 ON was", x.set(1, 1, 1), 0);
        check.is("8 ON", x.now(6), 2);
        check.is("8 SINCE", x.of(1, 2), 4);
        x.days(1);
        check.is("8 ON again", x.set(1, 1, 1), 1);
        check.is("8 SINCE again", x.of(1, 2), 5);
        check.is("8 ashore", x.set(1, 1, 0), 1);
        check.is("8 WORDS was", x.set(0, 3, 511), 0);
        check.is("8 WORDS least", x.set(0, 3, 0), 511);
        check.is("8 MET was", x.set(0, 4, 9999), 0);
        check.is("8 MET least", x.set(0, 4, 0), 9999);
        check.is("8 SINCE of WORDS and MET stays", x.of(0, 2), 0);
        String before = Check.seen(x);
        int[][] wrong = {{-1, 1, 0}, {2, 1, 0}, {0, 0, 0}, {0, 2, 0}, {0, 5, 0}, {0, -1, 0}, {0, 1, -1}, {0, 1, 2},
            {0, 3, -1}, {0, 3, 512}, {0, 4, -1}, {0, 4, 10000}};
        for (int[] w : wrong) {
            check.is("8 wrong", x.set(w[0], w[1], w[2]), Check.BEYOND);
        }
        check.is("8 nothing changed", Check.seen(x), before);
        check.is("8 counted", x.status(0), wrong.length);
    }

    private static void turn() {
        ReliefGales x = Check.with(0, 1);
        x.days(2);
        x.set(1, 3, 5);
        check.is("9 what it was", x.turn(1, 5), 1);
        check.is("9 it became", x.of(1, 0), 5);
        check.is("9 SINCE stays", x.of(1, 2), 0);
        check.is("9 WORDS stay", x.of(1, 3), 5);
        check.is("9 to the same", x.turn(1, 5), 5);
        check.is("9 the other stays", x.of(0, 0), 0);
        String before = Check.seen(x);
        check.is("9 keeper below", x.turn(-1, 0), Check.BEYOND);
        check.is("9 keeper above", x.turn(2, 0), Check.BEYOND);
        check.is("9 kind below", x.turn(0, -1), Check.BEYOND);
        check.is("9 kind above", x.turn(0, 6), Check.BEYOND);
        check.is("9 nothing changed", Check.seen(x), before);
        check.is("9 counted", x.status(0), 4);
    }

    private static void as() {
        ReliefGales x = Check.with(0, 1, 2, 3, 4, 5);
        int[] are = {0b000001, 0b000011, 0b000101, 0b001001, 0b010011, 0b100101};
        int strangers = 0;
        for (int k = 0; k < 6; k++) {
            x.set(k, 3, 100 + k);
            for (int kind = 0; kind < 6; kind++) {
                boolean is = (are[k] >> kind & 1) == 1;
                strangers += is ? 0 : 1;
                check.is("10 " + k + " as " + kind, x.as(k, kind), is ? 100 + k : Check.KIND);
            }
        }
        check.is("10 KIND counted", x.status(2), strangers);
        check.is("10 keeper below", x.as(-1, 0), Check.BEYOND);
        check.is("10 keeper above", x.as(6, 0), Check.BEYOND);
        check.is("10 kind below", x.as(0, -1), Check.BEYOND);
        check.is("10 kind above", x.as(0, 6), Check.BEYOND);
        check.is("10 BEYOND counted", x.status(0), 4);
    }
}
