/** Promises 27 to 29. */
public final class TextTest {
    private static final Check check = new Check();

    public static void main(String[] args) {
        feed();
        wipe();
        itemsOfKeepers();
        itemsOfTheLight();
        blanks();
        faults();
        ninth();
        faultChangesNothing();
        whatStoodBehindTheEnd();
        wholeTape();
        check.end();
    }

    private static void feed() {
        ReliefGales x = new ReliefGales();
        check.is("27 n below", x.feed(0, 0), Check.BEYOND);
        check.is("27 n above", x.feed(0, 5), Check.BEYOND);
        check.is("27 two lowest bytes, the highest first", x.feed(0x41417369, 2), 2);
        x.wipe();
        check.is("27 three bytes", x.feed('o' << 16 | 'i' << 8 | 'l', 3), 3);
        check.is("27 one byte", x.feed(0x20202000 | '7', 1), 4);
        check.is("27 read in that order", x.text(), 1);
        check.is("27 OIL", x.now(2), 7);
        check.is("27 four bytes", x.feed('r' << 24 | 'o' << 16 | 'c' << 8 | 'k', 4), 4);
        check.is("27 one more", x.feed('3', 1), 5);
        check.is("27 read", x.text(), 1);
        check.is("27 ROCK", x.now(1), 3);
        for (int i = 1; i <= 29; i++) {
            check.is("27 how many", x.feed(-1, 4), 4 * i);
        }
        check.is("27 three more", x.feed(-1, 3), 119);
        check.is("27 one too many", x.feed(0, 2), Check.FULL);
        check.is("27 nothing came", x.count(1), 119);
        check.is("27 the last", x.feed(0, 1), 120);
        check.is("27 FULL", x.feed(0, 1), Check.FULL);
        check.is("27 BEYOND is asked before FULL", x.feed(0, 5), Check.BEYOND);
        check.is("27 BEYOND counted", x.status(0), 3);
        check.is("27 FULL counted", x.status(1), 2);
    }

    private static void wipe() {
        ReliefGales x = new ReliefGales();
        check.is("28 empty", x.wipe(), 0);
        Check.feed(x, "keeper");
        check.is("28 how many it had", x.wipe(), 6);
        check.is("28 empty again", x.count(1), 0);
        check.is("28 nothing is left", x.text(), -1);
        check.is("28 no finding", x.status(-1), 0);
    }

    private static void itemsOfKeepers() {
        ReliefGales x = Check.with(0);
        x.days(4);
        check.is("29 all kinds", Check.text(x, "keeper;brother on;old knows 0;new on knows 8 1 8;twin;mate knows 1 2 3 4"), 6);
        check.is("29 TAPE is empty", x.count(1), 0);
        check.is("29 KEEPERS", x.count(0), 7);
        int[] words = {0, 0, 0, 1, 258, 0, 30};
        int[] on = {0, 0, 1, 0, 1, 0, 0};
        for (int k = 1; k < 7; k++) {
            check.is("29 KIND", x.of(k, 0), k - 1);
            check.is("29 ON", x.of(k, 1), on[k]);
            check.is("29 SINCE", x.of(k, 2), 4);
            check.is("29 WORDS", x.of(k, 3), words[k]);
            check.is("29 MET", x.of(k, 4), 0);
        }
    }

    private static void itemsOfTheLight() {
        ReliefGales x = new ReliefGales();
        check.is("29 greatest", Check.text(x, "sea 27 12;rock 12;oil 9999;beds 3"), 4);
        check.is("29 SEA", x.day(27, 0), 12);
        check.is("29 ROCK", x.now(1), 12);
        check.is("29 OIL", x.now(2), 9999);
        check.is("29 BEDS", x.now(3), 3);
        check.is("29 least", Check.text(x, "sea 0 0;rock 0;oil 0;beds 1;sea 1 0"), 5);
        check.is("29 SEA 0", x.day(0, 0), 0);
        check.is("29 SEA 1", x.day(1, 0), 0);
        check.is("29 ROCK 0", x.now(1), 0);
        check.is("29 OIL 0", x.now(2), 0);
        check.is("29 BEDS 1", x.now(3), 1);
        check.is("29 from the least", Check.text(x, "rock 1;oil 1;beds 2"), 3);
        check.is("29 ROCK 1", x.now(1), 1);
        check.is("29 the latest of several", Check.text(x, "oil 5;oil 6"), 2);
        check.is("29 OIL 6", x.now(2), 6);
        check.is("29 leading digits 0", Check.text(x, "oil 000000000000000000012"), 1);
        check.is("29 OIL 12", x.now(2), 12);
    }

    private static void blanks() {
        ReliefGales x = new ReliefGales();
        check.is("29 none between", Check.text(x, "oil7;keeper knows1 2;rock3"), 3);
        check.is("29 WORDS", x.of(0, 3), 6);
        check.is("29 many", Check.text(x, "  oil   8  ;  new   on   knows  4   "), 2);
        check.is("29 WORDS 4", x.of(1, 3), 16);
        check.is("29 words do not part by themselves", Check.text(x, "keeperon"), -1);
        check.is("29 nor numbers", Check.text(x, "keeper knows 12"), -14);
        check.is("29 no other blank", Check.text(x, "oil\t8"), -4);
    }

    private static void fault(String text, int place) {
        ReliefGales x = new ReliefGales();
        String before = Check.seen(x);
        check.is("29 fault of '" + text + "'", Check.text(x, text), -1 - place);
        check.is("29 nothing changed by '" + text + "'", Check.seen(x), before);
        check.is("29 no finding of '" + text + "'", x.status(-1), 0);
    }

    private static void faults() {
        fault("", 0);
        fault("   ", 3);
        fault(";", 0);
        fault("oil 3;", 6);
        fault("oil 3;;", 6);
        fault("oil 3; ", 7);
        fault("3", 0);
        fault("on", 0);
        fault("knows 1", 0);
        fault("keepers", 0);
        fault("kee", 0);
        fault("Keeper", 0);
        fault("oil 3 4", 6);
        fault("oil", 3);
        fault("oil ", 4);
        fault("oil ;", 4);
        fault("oil keeper", 4);
        fault("oil 10000", 4);
        fault("oil 4294967296", 4);
        fault("oil 9999999999999999999999999", 4);
        fault("oil -1", 4);
        fault("oil 1.5", 5);
        fault("oil 5A", 5);
        fault("oil 5" + (char) 200, 5);
        fault("oil 5" + (char) 0, 5);
        fault("rock 13", 5);
        fault("beds 0", 5);
        fault("beds 4", 5);
        fault("sea 28 0", 4);
        fault("sea 3 13", 6);
        fault("sea 3", 5);
        fault("sea 3 ", 6);
        fault("sea 3;", 5);
        fault("sea", 3);
        fault("keeper keeper", 7);
        fault("keeper on on", 10);
        fault("keeper on 3", 10);
        fault("keeper 3", 7);
        fault("keeper knows", 12);
        fault("keeper knows;", 12);
        fault("keeper knows on", 13);
        fault("keeper knows 9", 13);
        fault("keeper knows 1 9", 15);
        fault("keeper knows 1 on", 15);
        fault("keeper knows 1 knows 2", 15);
        fault("keeper knows 1 2 3 4 5", 21);
        fault("keeper knows 1 2 3 4 10000", 21);
        fault("keeper;oil 7;rock 13", 18);
        fault("gallery", 0);
        fault("oil 1 !", 6);
        fault("!oil 1", 0);
        fault("oilz 3", 0);
        fault("aoil 3", 0);
        fault("oil{3", 3);
        fault("oil`3", 3);
        fault("oil 3:", 5);
        fault("oil 3/", 5);
        for (String other : "xeeper xrother xld xew xwin xate xea xock xil xeds keepex olx sex beda".split(" ")) {
            fault(other + " 1 1", 0);
        }
    }

    private static void ninth() {
        ReliefGales x = Check.with(0, 0, 0, 0, 0, 0, 0);
        String before = Check.seen(x);
        check.is("29 a 9th behind an 8th", Check.text(x, "old; new on"), -6);
        check.is("29 nothing came", Check.seen(x), before);
        check.is("29 an 8th", Check.text(x, "old"), 1);
        check.is("29 a 9th", Check.text(x, "oil 1;mate knows 9"), -7);
        check.is("29 no finding", x.status(-1), 0);
        check.is("29 others with eight", Check.text(x, "oil 1"), 1);
    }

    private static void whatStoodBehindTheEnd() {
        ReliefGales x = new ReliefGales();
        Check.feed(x, "oil 34567");
        x.wipe();
        check.is("29 a number ends with THE TAPE", Check.text(x, "oil 3"), 1);
        check.is("29 OIL 3", x.now(2), 3);
        check.is("29 a word ends with THE TAPE", Check.text(x, "oi"), -1);
        Check.feed(x, "oil   ");
        x.wipe();
        check.is("29 blanks end with THE TAPE", Check.text(x, "oil "), -5);
    }

    private static int wholeText(ReliefGales x, String text) {
        Check.feedByFours(x, text);
        check.is("27 all of it", x.count(1), text.length());
        return x.text();
    }

    private static void wholeTape() {
        ReliefGales x = new ReliefGales();
        check.is("29 120 bytes with blanks last", wholeText(x, "oil 4" + " ".repeat(115)), 1);
        check.is("29 120 bytes of a number", wholeText(x, "oil " + "0".repeat(115) + "5"), 1);
        check.is("29 OIL 5", x.now(2), 5);
        check.is("29 120 bytes of a word", wholeText(x, "oil 4;" + "o".repeat(114)), -7);
        check.is("29 120 bytes and too early", wholeText(x, " ".repeat(117) + "oil"), -121);
        check.is("29 many items", wholeText(x, "oil1;".repeat(23) + "oil7"), 24);
        check.is("29 OIL 7", x.now(2), 7);
    }

    private static void faultChangesNothing() {
        ReliefGales x = Check.with(1);
        x.days(9);
        String before = Check.seen(x);
        check.is("29 late fault", Check.text(x, "sea 3 3;rock 2;oil 1;beds 3;keeper on knows 4;oil x"), -52 + 1);
        check.is("29 as it was", Check.seen(x), before);
    }
}
