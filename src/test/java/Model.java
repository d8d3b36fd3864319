import java.math.BigInteger;
import java.util.ArrayList;
import java.util.HashMap;
import java.util.List;
import java.util.Map;
import java.util.TreeSet;
import java.util.function.Predicate;
import java.util.regex.Matcher;
import java.util.regex.Pattern;

/**
 * The document once more, word by word and without any short cut: every question is played out
 * day by day on a copy of all there is. ModelTest holds the class against it.
 */
final class Model {
    private static final int BEYOND = Check.BEYOND;

    /** A KIND answers as the KIND above where it has no answer of its own. */
    private static class KeeperKind {
        int uses(boolean besideBrother) { return 2; }
        int brings(int s) { return 10 * s; }
        int tells(int s) { return s; }
    }

    private static class BrotherKind extends KeeperKind {
        @Override int tells(int s) { return 2 * super.tells(s); }
    }

    private static class OldKind extends KeeperKind {
        @Override int uses(boolean besideBrother) { return 1; }
        @Override int brings(int s) { return super.brings(s) / 2; }
        @Override int tells(int s) { return 1; }
    }

    private static class NewKind extends KeeperKind {
        @Override int uses(boolean besideBrother) { return super.uses(besideBrother) + 1; }
        @Override int brings(int s) { return super.brings(s) + 7; }
        @Override int tells(int s) { return super.tells(s) - 1; }
    }

    private static class TwinKind extends BrotherKind {
        @Override int uses(boolean besideBrother) { return super.uses(besideBrother) - (besideBrother ? 1 : 0); }
        @Override int tells(int s) { return super.tells(s) + 1; }
    }

    private static class MateKind extends OldKind {
        @Override int uses(boolean besideBrother) { return 2 * super.uses(besideBrother); }
        @Override int brings(int s) { return super.brings(s) + 20; }
        @Override int tells(int s) { return super.tells(s) + s / 3; }
    }

    private static final KeeperKind[] KINDS = {new KeeperKind(), new BrotherKind(), new OldKind(), new NewKind(),
        new TwinKind(), new MateKind()};
    private static final List<String> NAMES = List.of("keeper", "brother", "old", "new", "twin", "mate");

    private static final class Person {
        int number;
        int kind;
        boolean on;
        int since;
        TreeSet<Integer> words = new TreeSet<>();
        int met;

        KeeperKind is() { return KINDS[kind]; }

        Person copied() {
            Person p = new Person();
            p.number = number;
            p.kind = kind;
            p.on = on;
            p.since = since;
            p.words = new TreeSet<>(words);
            p.met = met;
            return p;
        }
    }

    private static final class World {
        int day = 0;
        Map<Integer, Integer> seas = new HashMap<>();
        int rock = 9;
        int gales = 0;
        int oil = 100;
        int beds = 2;
        int dark = 0;
        List<Person> people = new ArrayList<>();
        int reliefs = 0;
        List<Integer> met = List.of();

        World copied() {
            World w = new World();
            w.day = day;
            w.seas = new HashMap<>(seas);
            w.rock = rock;
            w.gales = gales;
            w.oil = oil;
            w.beds = beds;
            w.dark = dark;
            for (Person p : people) {
                w.people.add(p.copied());
            }
            return w;
        }

        World after(int n) {
            World w = copied();
            for (int i = 0; i < n; i++) {
                w.go();
            }
            return w;
        }

        int sea(int d) { return seas.get(d % 28); }

        int seconds(int d) { return sea(d) >= rock ? sea(d) - rock + 1 : 0; }

        boolean besideBrother(Person p) {
            return people.stream().anyMatch(q -> q != p && q.on && q.is() instanceof BrotherKind);
        }

        int uses(Person p) { return p.is().uses(besideBrother(p)); }

        int usesTogether() { return people.stream().filter(p -> p.on).mapToInt(this::uses).sum(); }

        int onSet() { return people.stream().filter(p -> p.on).mapToInt(p -> 1 << p.number).sum(); }

        Person longest(boolean on) {
            return people.stream().filter(p -> p.on == on)
                .min((a, b) -> a.since != b.since ? a.since - b.since : a.number - b.number).orElse(null);
        }

        void go() {
            met = List.of();
            int used = usesTogether();
            if (used > oil) {
                oil = 0;
                dark = Math.min(9999, dark + 1);
            } else {
                oil = oil - used;
            }
            if (seconds(day) > 0) {
                gales = gales + 1;
                if (gales == 3) {
                    if (longest(false) != null) {
                        change(longest(false), seconds(day));
                        gales = 0;
                    } else {
                        gales = 2;
                    }
                }
            }
            day = day + 1;
        }

        void change(Person comes, int s) {
            reliefs++;
            long wereOn = people.stream().filter(p -> p.on).count();
            Person goes = wereOn >= beds ? longest(true) : null;
            comes.on = true;
            comes.since = day + 1;
            oil = Math.min(9999, oil + comes.is().brings(s));
            if (goes == null) {
                return;
            }
            goes.on = false;
            goes.since = day + 1;
            comes.met = Math.min(9999, comes.met + 1);
            goes.met = Math.min(9999, goes.met + 1);
            TreeSet<Integer> toGoing = told(comes, goes, s);
            TreeSet<Integer> toComing = told(goes, comes, s);
            goes.words.addAll(toGoing);
            comes.words.addAll(toComing);
            met = List.of(comes.number, goes.number);
        }

        static TreeSet<Integer> told(Person teller, Person other, int s) {
            TreeSet<Integer> news = new TreeSet<>(teller.words);
            news.removeAll(other.words);
            while (news.size() > teller.is().tells(s)) {
                news.pollLast();
            }
            return news;
        }
    }

    private World world = new World();
    private World kept = null;
    private final StringBuilder tape = new StringBuilder();
    private final long[][] sheets = new long[4][];
    private final int[] bits = new int[4];
    private final Map<Integer, Integer> told = new HashMap<>();

    Model() {
        for (int i = 0; i < 28; i++) {
            world.seas.put(i, 5 * i % 13);
        }
    }

    private int finding(int f) {
        told.merge(f, 1, Integer::sum);
        return f;
    }

    private static boolean out(int v, int least, int most) { return v < least || v > most; }

    private boolean nobody(int keeper) { return out(keeper, 0, world.people.size() - 1); }

    private Person one(int keeper) { return world.people.get(keeper); }

    private static int bitsOf(TreeSet<Integer> words) { return words.stream().mapToInt(w -> 1 << w).sum(); }

    private static TreeSet<Integer> wordsOf(long set) {
        TreeSet<Integer> words = new TreeSet<>();
        for (int w = 0; w < 9; w++) {
            if ((set >> w & 1) == 1) {
                words.add(w);
            }
        }
        return words;
    }

    /** In how many DAYS, from first to last, something holds first. */
    private int when(int first, int last, Predicate<World> holds) {
        for (int n = first; n <= last; n++) {
            if (holds.test(world.after(n))) {
                return n;
            }
        }
        return finding(Check.NONE);
    }

    int sea(int place, int v) {
        return out(place, 0, 27) || out(v, 0, 12) ? finding(BEYOND) : world.seas.put(place, v);
    }

    int day(int day, int what) {
        if (out(day, 0, 9999) || out(what, 0, 2)) {
            return finding(BEYOND);
        }
        return new int[] {world.sea(day), world.seconds(day) > 0 ? 1 : 0, world.seconds(day)}[what];
    }

    int light(int what, int v) {
        int[] least = {0, 0, 1, 0};
        int[] most = {12, 9999, 3, 2};
        if (out(what, 0, 3) || out(v, least[what], most[what])) {
            return finding(BEYOND);
        }
        int was = new int[] {world.rock, world.oil, world.beds, world.gales}[what];
        world.rock = what == 0 ? v : world.rock;
        world.oil = what == 1 ? v : world.oil;
        world.beds = what == 2 ? v : world.beds;
        world.gales = what == 3 ? v : world.gales;
        return was;
    }

    int keeper(int kind) {
        if (out(kind, 0, 5)) {
            return finding(BEYOND);
        }
        return world.people.size() == 8 ? finding(Check.FULL) : comes(world, kind).number;
    }

    private static Person comes(World w, int kind) {
        Person p = new Person();
        p.number = w.people.size();
        p.kind = kind;
        p.since = w.day;
        w.people.add(p);
        return p;
    }

    /** For drawing what a READER may find; no call. */
    int wordsOfFirst() { return world.people.isEmpty() ? 0 : bitsOf(one(0).words); }

    int of(int keeper, int what) {
        if (nobody(keeper) || out(what, 0, 5)) {
            return finding(BEYOND);
        }
        Person p = one(keeper);
        return new int[] {p.kind, p.on ? 1 : 0, p.since, bitsOf(p.words), p.met, world.uses(p)}[what];
    }

    int can(int keeper, int what, int s) {
        if (nobody(keeper) || out(what, 0, 1) || out(s, 1, 13)) {
            return finding(BEYOND);
        }
        return what == 0 ? one(keeper).is().brings(s) : one(keeper).is().tells(s);
    }

    int set(int keeper, int what, int v) {
        boolean may = what == 1 && !out(v, 0, 1) || what == 3 && !out(v, 0, 511) || what == 4 && !out(v, 0, 9999);
        if (nobody(keeper) || !may) {
            return finding(BEYOND);
        }
        Person p = one(keeper);
        int was = what == 1 ? (p.on ? 1 : 0) : what == 3 ? bitsOf(p.words) : p.met;
        if (what == 1) {
            p.on = v == 1;
            p.since = world.day;
        } else if (what == 3) {
            p.words = wordsOf(v);
        } else {
            p.met = v;
        }
        return was;
    }

    int turn(int keeper, int kind) {
        if (nobody(keeper) || out(kind, 0, 5)) {
            return finding(BEYOND);
        }
        int was = one(keeper).kind;
        one(keeper).kind = kind;
        return was;
    }

    int as(int keeper, int kind) {
        if (nobody(keeper) || out(kind, 0, 5)) {
            return finding(BEYOND);
        }
        return KINDS[kind].getClass().isInstance(one(keeper).is()) ? bitsOf(one(keeper).words) : finding(Check.KIND);
    }

    int days(int n) {
        if (out(n, 1, 100)) {
            return finding(BEYOND);
        }
        if (world.day + n > 9999) {
            return finding(Check.STATE);
        }
        world = world.after(n);
        return world.onSet();
    }

    int now(int what) {
        if (out(what, 0, 7)) {
            return finding(BEYOND);
        }
        return new int[] {world.day, world.rock, world.oil, world.beds, world.gales, world.dark, world.onSet(),
            world.usesTogether()}[what];
    }

    int on(int keeper, int n, int what) {
        if (nobody(keeper) || out(n, 0, 200) || out(what, 0, 2)) {
            return finding(BEYOND);
        }
        Person p = world.after(n).people.get(keeper);
        return new int[] {p.on ? 1 : 0, bitsOf(p.words), p.met}[what];
    }

    int oil(int n) { return out(n, 0, 200) ? finding(BEYOND) : world.after(n).oil; }

    int relief() { return when(1, 200, w -> w.reliefs > 0); }

    int ashore(int keeper) {
        return nobody(keeper) ? finding(BEYOND) : when(0, 200, w -> !w.people.get(keeper).on);
    }

    int knows(int keeper, int word) {
        if (nobody(keeper) || out(word, 0, 8)) {
            return finding(BEYOND);
        }
        return when(0, 200, w -> w.people.get(keeper).words.contains(word));
    }

    int dark() { return when(1, 200, w -> w.dark > world.dark); }

    int meet(int keeper, int other) {
        if (nobody(keeper) || nobody(other) || keeper == other) {
            return finding(BEYOND);
        }
        return when(1, 200, w -> w.met.contains(keeper) && w.met.contains(other));
    }

    int rock(int n) {
        if (out(n, 1, 100)) {
            return finding(BEYOND);
        }
        int best = -1;
        for (int r = 0; r <= 12; r++) {
            World w = world.copied();
            w.rock = r;
            best = w.after(n).reliefs > 0 ? r : best;
        }
        return best < 0 ? finding(Check.NONE) : best;
    }

    int kind(int keeper, int n) {
        if (nobody(keeper) || out(n, 1, 100)) {
            return finding(BEYOND);
        }
        int best = 0;
        int most = -1;
        for (int k = 0; k < 6; k++) {
            World w = world.copied();
            w.people.get(keeper).kind = k;
            int known = w.after(n).people.get(keeper).words.size();
            if (known > most) {
                best = k;
                most = known;
            }
        }
        return best;
    }

    int enough(int n) {
        if (out(n, 1, 60)) {
            return finding(BEYOND);
        }
        for (int oil = 0; oil <= 999; oil++) {
            World w = world.copied();
            w.oil = oil;
            if (w.after(n).dark == world.dark) {
                return oil;
            }
        }
        return finding(Check.NONE);
    }

    int beds(int n) {
        if (out(n, 1, 100)) {
            return finding(BEYOND);
        }
        int best = 0;
        int most = -1;
        for (int b = 1; b <= 3; b++) {
            World w = world.copied();
            w.beds = b;
            int known = w.after(n).people.stream().mapToInt(p -> p.words.size()).sum();
            if (known > most) {
                best = b;
                most = known;
            }
        }
        return best;
    }

    private static int soonest(World w) {
        World at = w.copied();
        for (int n = 1; n <= 100; n++) {
            at.go();
            if (at.reliefs > 0) {
                return n;
            }
        }
        return 1000;
    }

    int storm() {
        int best = -1;
        int least = soonest(world);
        for (int place = 0; place < 28; place++) {
            World w = world.copied();
            w.seas.put(place, 12);
            if (soonest(w) < least) {
                best = place;
                least = soonest(w);
            }
        }
        return best < 0 ? finding(Check.NONE) : best;
    }

    int change(int n) {
        if (out(n, 1, 60)) {
            return finding(BEYOND);
        }
        int best = -1;
        int most = world.after(n).oil;
        for (int k = 0; k < world.people.size(); k++) {
            World w = world.copied();
            w.people.get(k).on = !w.people.get(k).on;
            w.people.get(k).since = w.day;
            int oil = w.after(n).oil;
            if (oil > most) {
                best = k;
                most = oil;
            }
        }
        return best < 0 ? finding(Check.NONE) : best;
    }

    int heard(int word, int n) {
        if (out(word, 0, 8) || out(n, 0, 200)) {
            return finding(BEYOND);
        }
        return (int) world.after(n).people.stream().filter(p -> p.words.contains(word)).count();
    }

    int feed(int bytes, int n) {
        if (out(n, 1, 4)) {
            return finding(BEYOND);
        }
        if (tape.length() + n > 120) {
            return finding(Check.FULL);
        }
        byte[] all = {(byte) (bytes >> 24), (byte) (bytes >> 16), (byte) (bytes >> 8), (byte) bytes};
        for (int i = 4 - n; i < 4; i++) {
            tape.append((char) (all[i] & 0xFF));
        }
        return tape.length();
    }

    int wipe() {
        int had = tape.length();
        tape.setLength(0);
        return had;
    }

    private record Token(String text, int place) {
        boolean number(int least, int most) {
            return text.matches("[0-9]+") && new BigInteger(text).compareTo(BigInteger.valueOf(most)) <= 0
                && new BigInteger(text).compareTo(BigInteger.valueOf(least)) >= 0;
        }

        int value() { return Integer.parseInt(text.replaceFirst("^0+(?=.)", "")); }
    }

    /** The tape as TOKENS, an empty one at its end. */
    private static List<Token> tokens(String text) {
        List<Token> tokens = new ArrayList<>();
        Matcher m = Pattern.compile("[a-z]+|[0-9]+|[^ ]", Pattern.DOTALL).matcher(text);
        while (m.find()) {
            tokens.add(new Token(m.group(), m.start()));
        }
        tokens.add(new Token("", text.length()));
        return tokens;
    }

    /** A machine of states; each TOKEN either leads on or is the FAULT. */
    int text() {
        World w = world.copied();
        String state = "item";
        int items = 0;
        int place = 0;
        Person p = null;
        for (Token t : tokens(tape.toString())) {
            boolean stands = true;
            boolean mayEnd = state.matches("kind|on|word[1-4]|end");
            if (mayEnd && t.text.matches(";|")) {
                items++;
                if (t.text.isEmpty()) {
                    tape.setLength(0);
                    world = w;
                    return items;
                }
                state = "item";
            } else if (state.equals("item") && NAMES.contains(t.text) && w.people.size() < 8) {
                p = comes(w, NAMES.indexOf(t.text));
                state = "kind";
            } else if (state.equals("item") && t.text.matches("sea|rock|oil|beds")) {
                state = t.text;
            } else if (state.equals("kind") && t.text.equals("on")) {
                p.on = true;
                state = "on";
            } else if (state.matches("kind|on") && t.text.equals("knows")) {
                state = "word0";
            } else if (state.matches("word[0-3]") && t.number(0, 8)) {
                p.words.add(t.value());
                state = "word" + (state.charAt(4) - '0' + 1);
            } else if (state.equals("sea") && t.number(0, 27)) {
                place = t.value();
                state = "height";
            } else if (state.equals("height") && t.number(0, 12)) {
                w.seas.put(place, t.value());
                state = "end";
            } else if (state.equals("rock") && t.number(0, 12)) {
                w.rock = t.value();
                state = "end";
            } else if (state.equals("oil") && t.number(0, 9999)) {
                w.oil = t.value();
                state = "end";
            } else if (state.equals("beds") && t.number(1, 3)) {
                w.beds = t.value();
                state = "end";
            } else {
                stands = false;
            }
            if (!stands) {
                tape.setLength(0);
                return -1 - t.place;
            }
        }
        throw new IllegalStateException("the end is a TOKEN that leads nowhere");
    }

    int sheet(int s, int b, int n) {
        if (out(s, 0, 3) || !List.of(0, 8, 16, 64).contains(b)) {
            return finding(BEYOND);
        }
        if (n < 0) {
            return finding(Check.SIZE);
        }
        if (n > 40) {
            return finding(BEYOND);
        }
        bits[s] = b;
        sheets[s] = b == 0 ? null : new long[n];
        return b == 0 ? 0 : n;
    }

    private long lowest(int s, long v) {
        int rest = 64 - bits[s];
        return v << rest >> rest;
    }

    /** 0 if the sheet is there. */
    private int lacks(int s) { return out(s, 0, 3) ? finding(BEYOND) : sheets[s] == null ? finding(Check.MISSING) : 0; }

    long write(int s, int i, long v) {
        int lacks = lacks(s);
        if (lacks != 0) {
            return lacks;
        }
        if (out(i, 0, sheets[s].length - 1)) {
            return finding(BEYOND);
        }
        long was = sheets[s][i];
        sheets[s][i] = lowest(s, v);
        return was;
    }

    int copy(int s, int from, int t, int to, int n) {
        if (out(s, 0, 3) || out(t, 0, 3)) {
            return finding(BEYOND);
        }
        if (sheets[s] == null || sheets[t] == null) {
            return finding(Check.MISSING);
        }
        if (bits[s] != bits[t]) {
            return finding(Check.KIND);
        }
        if (from < 0 || to < 0 || n < 0 || (long) from + n > sheets[s].length || (long) to + n > sheets[t].length) {
            return finding(BEYOND);
        }
        long[] were = sheets[s].clone();
        for (int i = 0; i < n; i++) {
            sheets[t][to + i] = were[from + i];
        }
        return n;
    }

    int lays(int s) {
        int lacks = lacks(s);
        if (lacks != 0) {
            return lacks;
        }
        int came = 0;
        for (int i = 0; i < sheets[s].length; i++) {
            if (i < 28 && sheets[s][i] >= 0 && sheets[s][i] <= 12) {
                world.seas.put(i, (int) sheets[s][i]);
                came++;
            }
        }
        return came;
    }

    int book(int s) {
        int lacks = lacks(s);
        if (lacks != 0) {
            return lacks;
        }
        for (int i = 0; i < sheets[s].length; i++) {
            sheets[s][i] = lowest(s, world.after(i).oil);
        }
        return sheets[s].length;
    }

    int read(int s, int keeper) {
        int lacks = lacks(s);
        if (lacks != 0) {
            return lacks;
        }
        if (nobody(keeper)) {
            return finding(BEYOND);
        }
        if (sheets[s].length > 8) {
            return finding(Check.SIZE);
        }
        int pairs = 0;
        for (int kind = 0; kind < 6; kind++) {
            for (int words = 0; words < 512; words++) {
                World w = world.copied();
                w.people.get(keeper).kind = kind;
                w.people.get(keeper).words = wordsOf(words);
                boolean so = true;
                for (int i = 0; i < sheets[s].length && so; i++) {
                    so = bitsOf(w.people.get(keeper).words) == sheets[s][i];
                    w.go();
                }
                pairs += so ? 1 : 0;
            }
        }
        return pairs;
    }

    int image() {
        kept = world.copied();
        return 1;
    }

    int undo() {
        if (kept == null) {
            return finding(Check.NONE);
        }
        world = kept.copied();
        return world.people.size();
    }

    int tear() {
        int was = kept == null ? 0 : 1;
        kept = null;
        return was;
    }

    int count(int what) {
        if (out(what, 0, 3)) {
            return finding(BEYOND);
        }
        int gales = 0;
        for (int d = 0; d < 28; d++) {
            gales += world.seconds(d) > 0 ? 1 : 0;
        }
        return new int[] {world.people.size(), tape.length(), Integer.bitCount(world.onSet()), gales}[what];
    }

    int status(int which) {
        if (which == -1) {
            return told.values().stream().mapToInt(n -> n).sum();
        }
        return out(which, 0, 6) ? finding(BEYOND) : told.getOrDefault(BEYOND - which, 0);
    }
}
