/** THE TEXT where it could just stand or not: each range of a NUMBER, each place at which it may end. */
public final class TextEdgesTest {
    private static final Check check = new Check();

    public static void main(String[] args) {
        seaPlaces();
        seaHeights();
        rocks();
        oils();
        beds();
        words();
        howManyWords();
        namesOfKinds();
        onAndKnows();
        tokensAsLongAsCanBe();
        blanksBetween();
        bytesThatBeginNoToken();
        endsOfAKeeper();
        endsOfASea();
        endsOfTheOthers();
        endsBehindASign();
        firstFault();
        faultChangesNothing();
        faultEmptiesTheTape();
        wholeTextOrNothing();
        itemsInTheirOrder();
        sinceThisDay();
        check.end();
    }

    private static ReliefGales x() {
        return new ReliefGales();
    }

    private static void stands(String text, int items) {
        check.is("'" + text + "' stands", Check.text(x(), text), items);
    }

    private static void fault(String text, int place) {
        ReliefGales x = x();
        String before = Check.seen(x);
        check.is("fault of '" + text + "'", Check.text(x, text), -1 - place);
        check.is("nothing changed by '" + text + "'", Check.seen(x), before);
        check.is("no finding of '" + text + "'", x.status(-1), 0);
    }

    private static void seaPlaces() {
        for (int place : new int[] {0, 1, 26, 27}) {
            ReliefGales x = x();
            check.is("sea " + place, Check.text(x, "sea " + place + " 4"), 1);
            check.is("sea " + place + " became", x.day(place, 0), 4);
        }
        fault("sea 28 4", 4);
        fault("sea 9999 4", 4);
        fault("sea 10000 4", 4);
    }

    private static void seaHeights() {
        for (int height : new int[] {0, 1, 11, 12}) {
            ReliefGales x = x();
            check.is("sea 3 " + height, Check.text(x, "sea 3 " + height), 1);
            check.is("sea became " + height, x.day(3, 0), height);
        }
        fault("sea 3 13", 6);
        fault("sea 27 9999", 7);
        fault("sea 28 13", 4);
    }

    private static void rocks() {
        for (int rock : new int[] {0, 1, 11, 12}) {
            ReliefGales x = x();
            check.is("rock " + rock, Check.text(x, "rock " + rock), 1);
            check.is("rock became " + rock, x.now(1), rock);
        }
        fault("rock 13", 5);
        fault("rock 9999", 5);
    }

    private static void oils() {
        for (int oil : new int[] {0, 1, 9998, 9999}) {
            ReliefGales x = x();
            check.is("oil " + oil, Check.text(x, "oil " + oil), 1);
            check.is("oil became " + oil, x.now(2), oil);
        }
        fault("oil 10000", 4);
        fault("oil 99999", 4);
        fault("oil 65536", 4);
        fault("oil 2147483648", 4);
        fault("oil 4294967297", 4);
        fault("oil 18446744073709551617", 4);
    }

    private static void beds() {
        for (int beds : new int[] {1, 2, 3}) {
            ReliefGales x = x();
            check.is("beds " + beds, Check.text(x, "beds " + beds), 1);
            check.is("beds became " + beds, x.now(3), beds);
        }
        fault("beds 0", 5);
        fault("beds 4", 5);
        fault("beds 9999", 5);
    }

    private static void words() {
        for (int word = 0; word <= 8; word++) {
            ReliefGales x = x();
            check.is("knows " + word, Check.text(x, "old knows " + word), 1);
            check.is("WORDS of " + word, x.of(0, 3), 1 << word);
        }
        fault("old knows 9", 10);
        fault("old knows 9999", 10);
        fault("old knows 10000", 10);
        fault("old knows 0 9", 12);
        fault("old knows 0 1 9", 14);
        fault("old knows 0 1 2 9", 16);
    }

    /** "knows and 1 to 4 NUMBERS"; "is a fifth of words". */
    private static void howManyWords() {
        int[] due = {0, 1, 3, 7, 15};
        String[] numbers = {"", " 0", " 0 1", " 0 1 2", " 0 1 2 3"};
        for (int n = 1; n <= 4; n++) {
            ReliefGales x = x();
            check.is(n + " words", Check.text(x, "new knows" + numbers[n] + ";oil 1"), 2);
            check.is(n + " WORDS", x.of(0, 3), due[n]);
        }
        fault("new knows;oil 1", 9);
        fault("new knows", 9);
        fault("new knows 0 1 2 3 4", 18);
        fault("new knows 0 1 2 3 4 5", 18);
        fault("new knows 0 1 2 3 9", 18);
        fault("new knows 5 5 5 5 5", 18);
        ReliefGales y = x();
        check.is("one word four times", Check.text(y, "new knows 5 5 5 5"), 1);
        check.is("is one word", y.of(0, 3), 32);
    }

    private static void namesOfKinds() {
        String[] names = "keeper brother old new twin mate".split(" ");
        for (int kind = 0; kind < 6; kind++) {
            ReliefGales x = x();
            check.is(names[kind], Check.text(x, names[kind]), 1);
            check.is(names[kind] + " is a KIND", x.of(0, 0), kind);
            check.is(names[kind] + " is ashore", x.of(0, 1), 0);
            check.is(names[kind] + " knows none", x.of(0, 3), 0);
            check.is(names[kind] + " met none", x.of(0, 4), 0);
            fault(names[kind] + "s", 0);
            fault(names[kind].substring(1), 0);
            fault(names[kind].substring(0, names[kind].length() - 1), 0);
            fault(names[kind].toUpperCase(), 0);
            fault("oil " + names[kind], 4);
        }
    }

    private static void onAndKnows() {
        ReliefGales x = x();
        check.is("all four ways", Check.text(x, "mate;mate on;mate knows 3;mate on knows 3"), 4);
        int[][] due = {{0, 0}, {1, 0}, {0, 8}, {1, 8}};
        for (int k = 0; k < 4; k++) {
            check.is("ON", x.of(k, 1), due[k][0]);
            check.is("WORDS", x.of(k, 3), due[k][1]);
        }
        check.is("more may be ON than BEDS", Check.text(x, "mate on;mate on;mate on"), 3);
        check.is("those that are ON", x.now(6), 0b1111010);
        fault("mate knows 3 on", 13);
        fault("mate on on", 8);
        fault("mate knows knows 3", 11);
        fault("mate knows 3 knows 4", 13);
        fault("mate 3", 5);
        fault("mate on 3", 8);
        fault("mate sea 1 1", 5);
        fault("on", 0);
        fault("knows 3", 0);
    }

    /** "TOKENS, each as long as can be". */
    private static void tokensAsLongAsCanBe() {
        fault("mateon", 0);
        fault("mate onknows 3", 5);
        fault("mate on knowson 3", 8);
        fault("mate knows 12", 11);
        fault("sea 1212", 4);
        fault("sea2712", 3);
        stands("sea27 12", 1);
        stands("mate on knows3 4;oil9;rock9;beds3", 4);
        stands("oil 00000000009999", 1);
        fault("oil 00000000010000", 4);
        stands("mate knows 0008", 1);
        fault("mate knows 0009", 11);
        stands("beds 001", 1);
        fault("beds 000", 5);
        fault("oil 12ab", 6);
        fault("oil 12 34", 7);
    }

    /** "blanks may stand between". */
    private static void blanksBetween() {
        stands("  mate   on   knows   3   4  ;  oil   5  ", 2);
        stands("oil 5;rock 3", 2);
        stands("oil 5 ; rock 3", 2);
        fault("o il 5", 0);
        fault("oil\n5", 3);
        fault("oil\t5", 3);
        fault("oil" + (char) 0 + "5", 3);
        fault("oil" + (char) 160 + "5", 3);
        fault("oil" + (char) 31 + "5", 3);
        fault("oil!5", 3);
        fault("sea 1" + (char) 33 + "2", 5);
    }

    /** Each byte but a letter, a digit, ; and a blank is a FAULT at its place. */
    private static void bytesThatBeginNoToken() {
        for (int b = 0; b < 256; b++) {
            boolean letter = b >= 'a' && b <= 'z';
            boolean digit = b >= '0' && b <= '9';
            ReliefGales x = x();
            Check.feed(x, "oil 5 ");
            x.feed(b, 1);
            int due = b == ' ' ? 1 : b == ';' ? -1 - 7 : -1 - 6;
            check.is("byte " + b + " behind an ITEM", x.text(), due);
            Check.feed(x, "oil 5");
            x.feed(b, 1);
            due = b == ' ' || digit ? 1 : b == ';' ? -1 - 6 : -1 - 5;
            check.is("byte " + b + " behind a NUMBER", x.text(), due);
            Check.feed(x, "beds");
            x.feed(b, 1);
            x.feed('1', 1);
            due = b == ' ' || b == '0' ? 1 : letter ? -1 : -1 - 4;
            check.is("byte " + b + " behind a WORD", x.text(), due);
            x.feed(b, 1);
            check.is("byte " + b + " alone", x.text(), b == ' ' ? -2 : -1);
        }
    }

    /** Each text that a keeper's begins with: it stands (0), or its FAULT is at that place. */
    private static void endsOfAKeeper() {
        String text = "twin on knows 1 2;oil 3";
        int[] due = {0, 0, 0, 0, -1, -1, 5, -1, -1, 8, 8, 8, 8, 13, 14, -1, -1, -1, 18, 18, 18, 21, 22, -1};
        ends(text, due);
    }

    private static void endsOfASea() {
        ends("sea 27 12;", new int[] {0, 0, 0, 3, 4, 5, 6, 7, -1, -1, 10});
    }

    private static void endsOfTheOthers() {
        ends("rock 12", new int[] {0, 0, 0, 0, 4, 5, -1, -1});
        ends("oil 9999", new int[] {0, 0, 0, 3, 4, -1, -1, -1, -1});
        ends("beds 3 ", new int[] {0, 0, 0, 0, 4, 5, -1, -1});
    }

    private static void endsBehindASign() {
        ends("oil 1; ; ", new int[] {0, 0, 0, 3, 4, -1, 6, 7, 7, 7});
        ends(";;", new int[] {0, 0, 0});
    }

    /** For each length of what the text begins with, the place of its FAULT, or -1. */
    private static void ends(String text, int[] due) {
        check.is("a place for each length", due.length, text.length() + 1);
        for (int length = 0; length <= text.length(); length++) {
            String begin = text.substring(0, length);
            if (due[length] >= 0) {
                fault(begin, due[length]);
            } else {
                check.is("'" + begin + "' stands", Check.text(x(), begin) > 0, true);
            }
        }
    }

    /** "the first TOKEN that can't stand there". */
    private static void firstFault() {
        fault("oil 5;rock 13;beds 0", 11);
        fault("rock 13;oil 10000", 5);
        fault("oil 5 5 5", 6);
        fault("oil x !", 4);
        fault("oil ! x", 4);
        fault("sea 28 !", 4);
        fault("keeper;keeper;keepers", 14);
    }

    /** "nothing changes but that THE TAPE is empty; no finding". */
    private static void faultChangesNothing() {
        ReliefGales x = Check.with(1, 4);
        x.image();
        x.days(30);
        x.set(0, 3, 6);
        x.sheet(0, 16, 2);
        x.write(0, 0, 9);
        String before = Check.seen(x);
        check.is("a FAULT at the very end", Check.text(x, "sea 1 1;rock 1;oil 1;beds 1;mate on knows 8;new;oil"), -52);
        check.is("as it was", Check.seen(x), before);
        check.is("sheets as they were", Check.numbers(x, 0, 2), "[9, 0]");
        check.is("no finding", x.status(-1), 0);
        check.is("a KEEPER that did not come left its place", x.keeper(2), 2);
        int[] due = {2, 0, 30, 0, 0, 1};
        for (int what = 0; what < 6; what++) {
            check.is("and nothing of itself", x.of(2, what), due[what]);
        }
        check.is("the image as it was", x.undo(), 2);
        check.is("of DAY 0", x.now(0), 0);
    }

    private static void faultEmptiesTheTape() {
        ReliefGales x = x();
        check.is("a FAULT", Check.text(x, "oil 5;!"), -7);
        check.is("39 no bytes", x.count(1), 0);
        check.is("28 nothing to wipe", x.wipe(), 0);
        check.is("29 nothing is left of it", x.text(), -1);
        check.is("29 another text", Check.text(x, "oil 6"), 1);
        check.is("39 no bytes again", x.count(1), 0);
        check.is("29 nothing is left of that", x.text(), -1);
        check.is("OIL", x.now(2), 6);
    }

    private static void wholeTextOrNothing() {
        ReliefGales x = x();
        check.is("ITEMS of all sorts", Check.text(x, "sea 1 1;rock 2;oil 3;beds 1;mate on knows 8;new"), 6);
        check.is("SEA", x.day(1, 0), 1);
        check.is("ROCK", x.now(1), 2);
        check.is("OIL", x.now(2), 3);
        check.is("BEDS", x.now(3), 1);
        check.is("KEEPERS", x.count(0), 2);
        check.is("those that are ON", x.now(6), 1);
        check.is("DAY stays", x.now(0), 0);
        check.is("GALES stay", x.now(4), 0);
        check.is("DARK stays", x.now(5), 0);
        check.is("other SEAS stay", x.day(2, 0), 10);
    }

    /** The later of two ITEMS stands. */
    private static void itemsInTheirOrder() {
        ReliefGales x = x();
        check.is("two of each", Check.text(x, "oil 3;oil 4;rock 5;rock 6;beds 3;beds 1;sea 2 3;sea 2 4;old;new"), 10);
        check.is("OIL", x.now(2), 4);
        check.is("ROCK", x.now(1), 6);
        check.is("BEDS", x.now(3), 1);
        check.is("SEA", x.day(2, 0), 4);
        check.is("KEEPER 0", x.of(0, 0), 2);
        check.is("KEEPER 1", x.of(1, 0), 3);
    }

    /** "one more, SINCE this DAY". */
    private static void sinceThisDay() {
        ReliefGales x = Check.with(0);
        x.days(17);
        check.is("two more", Check.text(x, "old on;old"), 2);
        check.is("SINCE, ON", x.of(1, 2), 17);
        check.is("SINCE, ashore", x.of(2, 2), 17);
        check.is("the other's SINCE", x.of(0, 2), 8);
    }
}
