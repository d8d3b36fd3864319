import java.util.Arrays;

/** A light, its keepers, the seas and the oil, as ../shared/DOC.md promises them. */
public final class ReliefGales {
    private static final int BEYOND = -1000000001;
    private static final int FULL = -1000000002;
    private static final int KIND = -1000000003;
    private static final int NONE = -1000000004;
    private static final int STATE = -1000000005;
    private static final int MISSING = -1000000006;
    private static final int SIZE = -1000000007;
    private static final int FINDINGS = 7;

    private static final int KEEPER = 0;
    private static final int BROTHER = 1;
    private static final int OLD = 2;
    private static final int NEW = 3;
    private static final int TWIN = 4;
    private static final int MATE = 5;
    private static final int KINDS = 6;

    private static final int ASHORE = 0;
    private static final int ON = 1;

    private static final int PLACES = 28;
    private static final int TOP_HEIGHT = 12;
    private static final int TOP_SECONDS = 13;
    private static final int TOP_BEDS = 3;
    private static final int TOP_COUNT = 9999;
    private static final int GALES_OF_RELIEF = 3;

    // What can be told to a light by one number, and from where to where it goes.
    private static final int ROCK = 0;
    private static final int OIL = 1;
    private static final int BEDS = 2;
    private static final int GALES = 3;
    private static final int MEASURES = 4;
    private static final int[] LEAST = {0, 0, 1, 0};
    private static final int[] MOST = {TOP_HEIGHT, TOP_COUNT, TOP_BEDS, GALES_OF_RELIEF - 1};

    private static final int KEEPERS = 8;
    private static final int WORDS = 9;
    private static final int TOP_WORD_SET = 511;
    private static final int WORDS_TOLD_IN_ITEM = 4;

    private static final int TAPE_BYTES = 120;
    private static final int SHEETS = 4;
    private static final int SHEET_NUMBERS = 40;
    private static final int READ_NUMBERS = 8;

    private static final int AHEAD = 200;
    private static final int LONG_TRIAL = 100;
    private static final int SHORT_TRIAL = 60;
    private static final int TOP_ENOUGH = 999;

    private final Light real;
    // Questions are played out here, so that none of them makes an object of its own.
    private final Light trial;
    private final Light kept;
    private boolean isKept;
    private final Tape tape;
    private final Sheet[] sheets;
    private final int[] findings;

    public ReliefGales() {
        real = new Light();
        trial = new Light();
        kept = new Light();
        isKept = false;
        tape = new Tape();
        sheets = new Sheet[SHEETS];
        for (int s = 0; s < SHEETS; s++) {
            sheets[s] = new Sheet();
        }
        findings = new int[FINDINGS];
    }

    // ---- the sea, the light

    public int sea(int place, int v) {
        if (!within(place, 0, PLACES - 1) || !within(v, 0, TOP_HEIGHT)) {
            return tell(BEYOND);
        }
        int was = real.seas[place];
        real.seas[place] = v;
        return was;
    }

    public int day(int day, int what) {
        if (!within(day, 0, TOP_COUNT)) {
            return tell(BEYOND);
        }
        switch (what) {
            case 0: return real.seaOn(day);
            case 1: return real.hasGaleOn(day) ? 1 : 0;
            case 2: return real.secondsOn(day);
            default: return tell(BEYOND);
        }
    }

    public int light(int what, int v) {
        if (!within(what, 0, MEASURES - 1) || !within(v, LEAST[what], MOST[what])) {
            return tell(BEYOND);
        }
        int was = real.measure(what);
        real.putMeasure(what, v);
        return was;
    }

    // ---- keepers

    public int keeper(int kind) {
        if (!isKind(kind)) {
            return tell(BEYOND);
        }
        if (real.isFull()) {
            return tell(FULL);
        }
        return real.addKeeper(kind);
    }

    public int of(int keeper, int what) {
        if (!real.hasKeeper(keeper)) {
            return tell(BEYOND);
        }
        switch (what) {
            case 0: return real.kinds[keeper];
            case 1: return real.stands[keeper];
            case 2: return real.sinces[keeper];
            case 3: return real.words[keeper];
            case 4: return real.mets[keeper];
            case 5: return real.usesOf(keeper);
            default: return tell(BEYOND);
        }
    }

    public int can(int keeper, int what, int s) {
        if (!real.hasKeeper(keeper) || !within(s, 1, TOP_SECONDS)) {
            return tell(BEYOND);
        }
        switch (what) {
            case 0: return Kinds.brings(real.kinds[keeper], s);
            case 1: return Kinds.tells(real.kinds[keeper], s);
            default: return tell(BEYOND);
        }
    }

    public int set(int keeper, int what, int v) {
        if (!real.hasKeeper(keeper)) {
            return tell(BEYOND);
        }
        switch (what) {
            case 1: return within(v, ASHORE, ON) ? real.putStand(keeper, v) : tell(BEYOND);
            case 3: return within(v, 0, TOP_WORD_SET) ? real.putWords(keeper, v) : tell(BEYOND);
            case 4: return within(v, 0, TOP_COUNT) ? real.putMet(keeper, v) : tell(BEYOND);
            default: return tell(BEYOND);
        }
    }

    public int turn(int keeper, int kind) {
        if (!real.hasKeeper(keeper) || !isKind(kind)) {
            return tell(BEYOND);
        }
        int was = real.kinds[keeper];
        real.kinds[keeper] = kind;
        return was;
    }

    public int as(int keeper, int kind) {
        if (!real.hasKeeper(keeper) || !isKind(kind)) {
            return tell(BEYOND);
        }
        if (!Kinds.isOrIsUnder(real.kinds[keeper], kind)) {
            return tell(KIND);
        }
        return real.words[keeper];
    }

    // ---- days

    public int days(int n) {
        if (!within(n, 1, LONG_TRIAL)) {
            return tell(BEYOND);
        }
        if (real.dayNow + n > TOP_COUNT) {
            return tell(STATE);
        }
        real.passDays(n);
        return real.setOfOn();
    }

    public int now(int what) {
        switch (what) {
            case 0: return real.dayNow;
            case 1: return real.rockHeight;
            case 2: return real.oilLeft;
            case 3: return real.bedCount;
            case 4: return real.galeCount;
            case 5: return real.darkDays;
            case 6: return real.setOfOn();
            case 7: return real.usesTogether();
            default: return tell(BEYOND);
        }
    }

    public int on(int keeper, int n, int what) {
        if (!real.hasKeeper(keeper) || !within(n, 0, AHEAD) || !within(what, 0, 2)) {
            return tell(BEYOND);
        }
        startTrial();
        trial.passDays(n);
        switch (what) {
            case 0: return trial.stands[keeper];
            case 1: return trial.words[keeper];
            default: return trial.mets[keeper];
        }
    }

    public int oil(int n) {
        if (!within(n, 0, AHEAD)) {
            return tell(BEYOND);
        }
        startTrial();
        trial.passDays(n);
        return trial.oilLeft;
    }

    public int relief() {
        int soonest = real.daysToRelief(AHEAD);
        return soonest > AHEAD ? tell(NONE) : soonest;
    }

    public int ashore(int keeper) {
        if (!real.hasKeeper(keeper)) {
            return tell(BEYOND);
        }
        startTrial();
        for (int n = 0; n <= AHEAD; n++) {
            if (trial.stands[keeper] == ASHORE) {
                return n;
            }
            trial.passDay();
        }
        return tell(NONE);
    }

    public int knows(int keeper, int word) {
        if (!real.hasKeeper(keeper) || !isWord(word)) {
            return tell(BEYOND);
        }
        startTrial();
        for (int n = 0; n <= AHEAD; n++) {
            if (trial.knowsWord(keeper, word)) {
                return n;
            }
            trial.passDay();
        }
        return tell(NONE);
    }

    public int dark() {
        startTrial();
        for (int n = 1; n <= AHEAD; n++) {
            trial.passDay();
            if (trial.darkDays > real.darkDays) {
                return n;
            }
        }
        return tell(NONE);
    }

    public int meet(int keeper, int other) {
        if (!real.hasKeeper(keeper) || !real.hasKeeper(other) || keeper == other) {
            return tell(BEYOND);
        }
        startTrial();
        for (int n = 1; n <= AHEAD; n++) {
            trial.passDay();
            if (trial.haveJustMet(keeper, other)) {
                return n;
            }
        }
        return tell(NONE);
    }

    // ---- what is best

    public int rock(int n) {
        if (!within(n, 1, LONG_TRIAL)) {
            return tell(BEYOND);
        }
        startTrial();
        for (int height = TOP_HEIGHT; height >= 0; height--) {
            trial.rockHeight = height;
            if (trial.daysToRelief(n) <= n) {
                return height;
            }
        }
        return tell(NONE);
    }

    public int kind(int keeper, int n) {
        if (!real.hasKeeper(keeper) || !within(n, 1, LONG_TRIAL)) {
            return tell(BEYOND);
        }
        int best = KEEPER;
        int most = -1;
        for (int kind = 0; kind < KINDS; kind++) {
            startTrial();
            trial.kinds[keeper] = kind;
            trial.passDays(n);
            int known = Integer.bitCount(trial.words[keeper]);
            if (known > most) {
                most = known;
                best = kind;
            }
        }
        return best;
    }

    public int enough(int n) {
        if (!within(n, 1, SHORT_TRIAL)) {
            return tell(BEYOND);
        }
        if (!staysLit(TOP_ENOUGH, n)) {
            return tell(NONE);
        }
        // More oil at first never leaves less on a later day, so the least can be halved for.
        int low = 0;
        int high = TOP_ENOUGH;
        for (int step = 0; step < TOP_ENOUGH && low < high; step++) {
            int middle = (low + high) / 2;
            if (staysLit(middle, n)) {
                high = middle;
            } else {
                low = middle + 1;
            }
        }
        return high;
    }

    public int beds(int n) {
        if (!within(n, 1, LONG_TRIAL)) {
            return tell(BEYOND);
        }
        int best = 1;
        int most = -1;
        for (int count = 1; count <= TOP_BEDS; count++) {
            startTrial();
            trial.bedCount = count;
            trial.passDays(n);
            int known = trial.wordsTogether();
            if (known > most) {
                most = known;
                best = count;
            }
        }
        return best;
    }

    public int storm() {
        startTrial();
        int soonest = real.daysToRelief(LONG_TRIAL);
        int best = -1;
        for (int place = 0; place < PLACES; place++) {
            trial.seas[place] = TOP_HEIGHT;
            int reliefAfter = trial.daysToRelief(LONG_TRIAL);
            trial.seas[place] = real.seas[place];
            if (reliefAfter < soonest) {
                soonest = reliefAfter;
                best = place;
            }
        }
        return best < 0 ? tell(NONE) : best;
    }

    public int change(int n) {
        if (!within(n, 1, SHORT_TRIAL)) {
            return tell(BEYOND);
        }
        startTrial();
        trial.passDays(n);
        int most = trial.oilLeft;
        int best = -1;
        for (int k = 0; k < real.crew; k++) {
            startTrial();
            trial.putStand(k, trial.stands[k] == ON ? ASHORE : ON);
            trial.passDays(n);
            if (trial.oilLeft > most) {
                most = trial.oilLeft;
                best = k;
            }
        }
        return best < 0 ? tell(NONE) : best;
    }

    public int heard(int word, int n) {
        if (!isWord(word) || !within(n, 0, AHEAD)) {
            return tell(BEYOND);
        }
        startTrial();
        trial.passDays(n);
        return trial.countKnowing(word);
    }

    // ---- the text

    public int feed(int bytes, int n) {
        if (!within(n, 1, 4)) {
            return tell(BEYOND);
        }
        if (tape.length + n > TAPE_BYTES) {
            return tell(FULL);
        }
        for (int i = n - 1; i >= 0; i--) {
            tape.append((bytes >>> (8 * i)) & 255);
        }
        return tape.length;
    }

    public int wipe() {
        int had = tape.length;
        tape.length = 0;
        return had;
    }

    public int text() {
        startTrial();
        int items = Text.takeText(tape, trial);
        if (items > 0) {
            real.becomeLike(trial);
        }
        tape.length = 0;
        return items;
    }

    // ---- sheets

    public int sheet(int s, int bits, int n) {
        Sheet sheet = sheetAt(s);
        if (sheet == null || !Sheet.isWidth(bits)) {
            return tell(BEYOND);
        }
        if (n < 0) {
            return tell(SIZE);
        }
        if (n > SHEET_NUMBERS) {
            return tell(BEYOND);
        }
        sheet.layOut(bits, n);
        return sheet.size;
    }

    public long write(int s, int i, long v) {
        Sheet sheet = sheetAt(s);
        if (sheet == null) {
            return tell(BEYOND);
        }
        if (sheet.isMissing()) {
            return tell(MISSING);
        }
        if (!within(i, 0, sheet.size - 1)) {
            return tell(BEYOND);
        }
        long was = sheet.numbers[i];
        sheet.put(i, v);
        return was;
    }

    public int copy(int s, int from, int t, int to, int n) {
        Sheet source = sheetAt(s);
        Sheet target = sheetAt(t);
        if (source == null || target == null) {
            return tell(BEYOND);
        }
        if (source.isMissing() || target.isMissing()) {
            return tell(MISSING);
        }
        if (source.width != target.width) {
            return tell(KIND);
        }
        if (!source.hasRange(from, n) || !target.hasRange(to, n)) {
            return tell(BEYOND);
        }
        System.arraycopy(source.numbers, from, target.numbers, to, n);
        return n;
    }

    public int lays(int s) {
        Sheet sheet = sheetAt(s);
        if (sheet == null) {
            return tell(BEYOND);
        }
        if (sheet.isMissing()) {
            return tell(MISSING);
        }
        int came = 0;
        for (int i = 0; i < sheet.size && i < PLACES; i++) {
            long height = sheet.numbers[i];
            if (height >= 0 && height <= TOP_HEIGHT) {
                real.seas[i] = (int) height;
                came++;
            }
        }
        return came;
    }

    public int book(int s) {
        Sheet sheet = sheetAt(s);
        if (sheet == null) {
            return tell(BEYOND);
        }
        if (sheet.isMissing()) {
            return tell(MISSING);
        }
        startTrial();
        for (int i = 0; i < sheet.size; i++) {
            sheet.put(i, trial.oilLeft);
            trial.passDay();
        }
        return sheet.size;
    }

    public int read(int s, int keeper) {
        Sheet sheet = sheetAt(s);
        if (sheet == null) {
            return tell(BEYOND);
        }
        if (sheet.isMissing()) {
            return tell(MISSING);
        }
        if (!real.hasKeeper(keeper)) {
            return tell(BEYOND);
        }
        if (sheet.size > READ_NUMBERS) {
            return tell(SIZE);
        }
        if (sheet.size == 0) {
            return KINDS * (TOP_WORD_SET + 1);
        }
        return countKindsThatRead(sheet, keeper);
    }

    // ---- images

    public int image() {
        kept.becomeLike(real);
        isKept = true;
        return 1;
    }

    public int undo() {
        if (!isKept) {
            return tell(NONE);
        }
        real.becomeLike(kept);
        return real.crew;
    }

    public int tear() {
        int was = isKept ? 1 : 0;
        isKept = false;
        return was;
    }

    public int count(int what) {
        switch (what) {
            case 0: return real.crew;
            case 1: return tape.length;
            case 2: return real.countStanding(ON);
            case 3: return real.countGaleDays();
            default: return tell(BEYOND);
        }
    }

    public int status(int which) {
        if (which == -1) {
            int all = 0;
            for (int told : findings) {
                all += told;
            }
            return all;
        }
        return within(which, 0, FINDINGS - 1) ? findings[which] : tell(BEYOND);
    }

    // ---- what the calls share

    private int tell(int finding) {
        int which = BEYOND - finding;
        if (within(which, 0, FINDINGS - 1)) {
            findings[which]++;
        }
        return finding;
    }

    private void startTrial() {
        trial.becomeLike(real);
    }

    private Sheet sheetAt(int s) {
        return within(s, 0, SHEETS - 1) ? sheets[s] : null;
    }

    private boolean staysLit(int oilAtFirst, int n) {
        startTrial();
        trial.oilLeft = oilAtFirst;
        trial.passDays(n);
        return trial.darkDays == real.darkDays;
    }

    /** The first number is WORDS now, so no other WORDS can make the sheet: only KINDS are tried. */
    private int countKindsThatRead(Sheet sheet, int keeper) {
        long wordsNow = sheet.numbers[0];
        if (wordsNow < 0 || wordsNow > TOP_WORD_SET) {
            return 0;
        }
        int pairs = 0;
        for (int kind = 0; kind < KINDS; kind++) {
            startTrial();
            trial.kinds[keeper] = kind;
            trial.words[keeper] = (int) wordsNow;
            if (trialReads(sheet, keeper)) {
                pairs++;
            }
        }
        return pairs;
    }

    private boolean trialReads(Sheet sheet, int keeper) {
        for (int i = 0; i < sheet.size; i++) {
            if (trial.words[keeper] != sheet.numbers[i]) {
                return false;
            }
            trial.passDay();
        }
        return true;
    }

    private static boolean within(int v, int least, int most) {
        return v >= least && v <= most;
    }

    private static boolean isKind(int kind) {
        return within(kind, 0, KINDS - 1);
    }

    private static boolean isWord(int word) {
        return within(word, 0, WORDS - 1);
    }

    /** What the KINDS are under, use, bring and tell. */
    private static final class Kinds {
        private static final int[] ABOVE = {-1, KEEPER, KEEPER, KEEPER, BROTHER, OLD};

        static boolean isOrIsUnder(int kind, int other) {
            int at = kind;
            for (int step = 0; step < KINDS && at >= 0 && at < KINDS; step++) {
                if (at == other) {
                    return true;
                }
                at = ABOVE[at];
            }
            return false;
        }

        static int uses(int kind, boolean besideBrother) {
            switch (kind) {
                case OLD: return 1;
                case NEW: return 3;
                case TWIN: return besideBrother ? 1 : 2;
                case MATE: return 2;
                default: return 2;
            }
        }

        static int brings(int kind, int seconds) {
            switch (kind) {
                case OLD: return 10 * seconds / 2;
                case NEW: return 10 * seconds + 7;
                case MATE: return 10 * seconds / 2 + 20;
                default: return 10 * seconds;
            }
        }

        static int tells(int kind, int seconds) {
            switch (kind) {
                case BROTHER: return 2 * seconds;
                case OLD: return 1;
                case NEW: return seconds - 1;
                case TWIN: return 2 * seconds + 1;
                case MATE: return 1 + seconds / 3;
                default: return seconds;
            }
        }
    }

    /** All that section 1 of the document tells but THE TAPE, and how its DAYS go. */
    private static final class Light {
        final int[] seas = new int[PLACES];
        int dayNow = 0;
        int rockHeight = 9;
        int galeCount = 0;
        int oilLeft = 100;
        int bedCount = 2;
        int darkDays = 0;

        int crew = 0;
        final int[] kinds = new int[KEEPERS];
        final int[] stands = new int[KEEPERS];
        final int[] sinces = new int[KEEPERS];
        final int[] words = new int[KEEPERS];
        final int[] mets = new int[KEEPERS];

        // Who met in the DAY that went latest; -1 if none did.
        private int wentUp = -1;
        private int wentDown = -1;

        Light() {
            for (int place = 0; place < PLACES; place++) {
                seas[place] = 5 * place % (TOP_HEIGHT + 1);
            }
        }

        void becomeLike(Light other) {
            System.arraycopy(other.seas, 0, seas, 0, PLACES);
            dayNow = other.dayNow;
            rockHeight = other.rockHeight;
            galeCount = other.galeCount;
            oilLeft = other.oilLeft;
            bedCount = other.bedCount;
            darkDays = other.darkDays;
            crew = other.crew;
            System.arraycopy(other.kinds, 0, kinds, 0, KEEPERS);
            System.arraycopy(other.stands, 0, stands, 0, KEEPERS);
            System.arraycopy(other.sinces, 0, sinces, 0, KEEPERS);
            System.arraycopy(other.words, 0, words, 0, KEEPERS);
            System.arraycopy(other.mets, 0, mets, 0, KEEPERS);
        }

        int measure(int what) {
            switch (what) {
                case ROCK: return rockHeight;
                case OIL: return oilLeft;
                case BEDS: return bedCount;
                default: return galeCount;
            }
        }

        void putMeasure(int what, int v) {
            switch (what) {
                case ROCK: rockHeight = v; break;
                case OIL: oilLeft = v; break;
                case BEDS: bedCount = v; break;
                case GALES: galeCount = v; break;
                default: break;
            }
        }

        int seaOn(int day) {
            return seas[Math.floorMod(day, PLACES)];
        }

        boolean hasGaleOn(int day) {
            return seaOn(day) >= rockHeight;
        }

        int secondsOn(int day) {
            int height = seaOn(day);
            return height >= rockHeight ? height - rockHeight + 1 : 0;
        }

        int countGaleDays() {
            int gales = 0;
            for (int day = 0; day < PLACES; day++) {
                if (hasGaleOn(day)) {
                    gales++;
                }
            }
            return gales;
        }

        boolean isFull() {
            return crew >= KEEPERS;
        }

        boolean hasKeeper(int keeper) {
            return within(keeper, 0, crew - 1);
        }

        /** The number of the new one; -1 if there is no room. */
        int addKeeper(int kind) {
            if (isFull()) {
                return -1;
            }
            int keeper = crew;
            kinds[keeper] = kind;
            stands[keeper] = ASHORE;
            sinces[keeper] = dayNow;
            words[keeper] = 0;
            mets[keeper] = 0;
            crew++;
            return keeper;
        }

        int putStand(int keeper, int stand) {
            int was = stands[keeper];
            stands[keeper] = stand;
            sinces[keeper] = dayNow;
            return was;
        }

        int putWords(int keeper, int wordSet) {
            int was = words[keeper];
            words[keeper] = wordSet;
            return was;
        }

        int putMet(int keeper, int met) {
            int was = mets[keeper];
            mets[keeper] = met;
            return was;
        }

        int setOfOn() {
            int set = 0;
            for (int k = 0; k < crew; k++) {
                if (stands[k] == ON) {
                    set |= 1 << k;
                }
            }
            return set;
        }

        int countStanding(int stand) {
            int standing = 0;
            for (int k = 0; k < crew; k++) {
                if (stands[k] == stand) {
                    standing++;
                }
            }
            return standing;
        }

        boolean knowsWord(int keeper, int word) {
            return (words[keeper] >> word & 1) == 1;
        }

        int countKnowing(int word) {
            int knowing = 0;
            for (int k = 0; k < crew; k++) {
                if (knowsWord(k, word)) {
                    knowing++;
                }
            }
            return knowing;
        }

        int wordsTogether() {
            int known = 0;
            for (int k = 0; k < crew; k++) {
                known += Integer.bitCount(words[k]);
            }
            return known;
        }

        int usesOf(int keeper) {
            return Kinds.uses(kinds[keeper], isBesideBrother(keeper));
        }

        private boolean isBesideBrother(int keeper) {
            for (int k = 0; k < crew; k++) {
                if (k != keeper && stands[k] == ON && Kinds.isOrIsUnder(kinds[k], BROTHER)) {
                    return true;
                }
            }
            return false;
        }

        int usesTogether() {
            int used = 0;
            for (int k = 0; k < crew; k++) {
                if (stands[k] == ON) {
                    used += usesOf(k);
                }
            }
            return used;
        }

        void passDays(int n) {
            for (int i = 0; i < n; i++) {
                passDay();
            }
        }

        void passDay() {
            wentUp = -1;
            wentDown = -1;
            burnOil(usesTogether());
            int seconds = secondsOn(dayNow);
            if (seconds > 0) {
                blowGale(seconds);
            }
            dayNow++;
        }

        private void burnOil(int used) {
            if (oilLeft < used) {
                oilLeft = 0;
                darkDays = Math.min(TOP_COUNT, darkDays + 1);
            } else {
                oilLeft -= used;
            }
        }

        private void blowGale(int seconds) {
            galeCount++;
            if (galeCount < GALES_OF_RELIEF) {
                return;
            }
            int up = longestStanding(ASHORE);
            if (up < 0) {
                galeCount = GALES_OF_RELIEF - 1;
                return;
            }
            galeCount = 0;
            relieve(up, seconds);
        }

        private void relieve(int up, int seconds) {
            // Who goes is chosen before the other one comes, that it may not go at once.
            int down = countStanding(ON) >= bedCount ? longestStanding(ON) : -1;
            stands[up] = ON;
            sinces[up] = dayNow + 1;
            oilLeft = Math.min(TOP_COUNT, oilLeft + Kinds.brings(kinds[up], seconds));
            if (down >= 0) {
                stands[down] = ASHORE;
                sinces[down] = dayNow + 1;
                meetInMidAir(up, down, seconds);
            }
        }

        private void meetInMidAir(int up, int down, int seconds) {
            mets[up] = Math.min(TOP_COUNT, mets[up] + 1);
            mets[down] = Math.min(TOP_COUNT, mets[down] + 1);
            int upKnew = words[up];
            int downKnew = words[down];
            words[up] |= leastOf(downKnew & ~upKnew, Kinds.tells(kinds[down], seconds));
            words[down] |= leastOf(upKnew & ~downKnew, Kinds.tells(kinds[up], seconds));
            wentUp = up;
            wentDown = down;
        }

        private static int leastOf(int wordSet, int most) {
            int chosen = 0;
            int left = most;
            for (int word = 0; word < WORDS && left > 0; word++) {
                if ((wordSet >> word & 1) == 1) {
                    chosen |= 1 << word;
                    left--;
                }
            }
            return chosen;
        }

        /** The one that has stood so since the least DAY, the least of several; -1 if none does. */
        private int longestStanding(int stand) {
            int longest = -1;
            for (int k = 0; k < crew; k++) {
                if (stands[k] == stand && (longest < 0 || sinces[k] < sinces[longest])) {
                    longest = k;
                }
            }
            return longest;
        }

        boolean haveJustMet(int keeper, int other) {
            return wentUp == keeper && wentDown == other || wentUp == other && wentDown == keeper;
        }

        /**
         * In how many DAYS the next relief is behind one; limit + 1 if in none up to limit.
         * Before it nobody comes or goes, so the gales alone decide.
         */
        int daysToRelief(int limit) {
            if (countStanding(ASHORE) == 0) {
                return limit + 1;
            }
            int gales = galeCount;
            for (int n = 1; n <= limit; n++) {
                if (hasGaleOn(dayNow + n - 1)) {
                    gales++;
                }
                if (gales >= GALES_OF_RELIEF) {
                    return n;
                }
            }
            return limit + 1;
        }
    }

    /** THE TAPE, and the TOKEN of it that is looked at. */
    private static final class Tape {
        static final int END = 0;
        static final int WORD = 1;
        static final int NUMBER = 2;
        static final int SIGN = 3;
        static final int NO_TOKEN = 4;

        private final int[] bytes = new int[TAPE_BYTES];
        int length = 0;

        int tokenSort = END;
        int tokenStart = 0;
        private int tokenEnd = 0;
        private int tokenValue = 0;

        void append(int value) {
            if (length < TAPE_BYTES) {
                bytes[length] = value;
                length++;
            }
        }

        void goToFirstToken() {
            tokenEnd = 0;
            goToNextToken();
        }

        void goToNextToken() {
            tokenStart = tokenEnd;
            while (tokenStart < length && bytes[tokenStart] == ' ') {
                tokenStart++;
            }
            tokenSort = tokenStart < length ? sortOf(bytes[tokenStart]) : END;
            tokenValue = 0;
            for (tokenEnd = tokenStart; tokenEnd < length && sortOf(bytes[tokenEnd]) == tokenSort; tokenEnd++) {
                if (tokenSort == NUMBER) {
                    // Held just above the most, that a long row of digits can't wrap around.
                    tokenValue = Math.min(TOP_COUNT + 1, 10 * tokenValue + bytes[tokenEnd] - '0');
                }
            }
            if (tokenSort == SIGN) {
                // Signs don't grow together as letters and digits do.
                tokenEnd = tokenStart + 1;
            }
        }

        private static int sortOf(int value) {
            if (value >= 'a' && value <= 'z') {
                return WORD;
            }
            if (value >= '0' && value <= '9') {
                return NUMBER;
            }
            return value == ';' ? SIGN : NO_TOKEN;
        }

        boolean showsWord(String name) {
            if (tokenSort != WORD || tokenEnd - tokenStart != name.length()) {
                return false;
            }
            for (int i = 0; i < name.length(); i++) {
                if (bytes[tokenStart + i] != name.charAt(i)) {
                    return false;
                }
            }
            return true;
        }

        /** Goes behind a word if it stands here. */
        boolean takeWord(String name) {
            if (!showsWord(name)) {
                return false;
            }
            goToNextToken();
            return true;
        }

        /** Goes behind a NUMBER from least to most and answers it; -1 if none stands here. */
        int takeNumber(int least, int most) {
            if (tokenSort != NUMBER || !within(tokenValue, least, most)) {
                return -1;
            }
            int value = tokenValue;
            goToNextToken();
            return value;
        }
    }

    /** THE TEXT of a LIGHT; each method leaves the tape at the TOKEN that can't stand there. */
    private static final class Text {
        /** How many ITEMS came to the light; with a FAULT, -1 less its place. */
        static int takeText(Tape tape, Light light) {
            tape.goToFirstToken();
            for (int items = 1; items <= TAPE_BYTES; items++) {
                if (!takeItem(tape, light)) {
                    break;
                }
                if (tape.tokenSort == Tape.END) {
                    return items;
                }
                if (tape.tokenSort != Tape.SIGN) {
                    break;
                }
                tape.goToNextToken();
            }
            return -1 - tape.tokenStart;
        }

        private static boolean takeItem(Tape tape, Light light) {
            int kind = kindShown(tape);
            if (kind >= 0) {
                return takeKeeper(tape, light, kind);
            }
            if (tape.takeWord("sea")) {
                return takeSea(tape, light);
            }
            if (tape.takeWord("rock")) {
                return takeMeasure(tape, light, ROCK);
            }
            if (tape.takeWord("oil")) {
                return takeMeasure(tape, light, OIL);
            }
            return tape.takeWord("beds") && takeMeasure(tape, light, BEDS);
        }

        private static boolean takeMeasure(Tape tape, Light light, int what) {
            int v = within(what, 0, MEASURES - 1) ? tape.takeNumber(LEAST[what], MOST[what]) : -1;
            if (v < 0) {
                return false;
            }
            light.putMeasure(what, v);
            return true;
        }

        private static int kindShown(Tape tape) {
            if (tape.showsWord("keeper")) {
                return KEEPER;
            }
            if (tape.showsWord("brother")) {
                return BROTHER;
            }
            if (tape.showsWord("old")) {
                return OLD;
            }
            if (tape.showsWord("new")) {
                return NEW;
            }
            if (tape.showsWord("twin")) {
                return TWIN;
            }
            return tape.showsWord("mate") ? MATE : -1;
        }

        private static boolean takeKeeper(Tape tape, Light light, int kind) {
            int keeper = light.addKeeper(kind);
            if (keeper < 0) {
                return false;
            }
            tape.goToNextToken();
            if (tape.takeWord("on")) {
                light.putStand(keeper, ON);
            }
            return !tape.takeWord("knows") || takeKnownWords(tape, light, keeper);
        }

        private static boolean takeKnownWords(Tape tape, Light light, int keeper) {
            int known = 0;
            for (int i = 0; i < WORDS_TOLD_IN_ITEM; i++) {
                if (i > 0 && tape.tokenSort != Tape.NUMBER) {
                    break;
                }
                int word = tape.takeNumber(0, WORDS - 1);
                if (word < 0) {
                    return false;
                }
                known |= 1 << word;
            }
            light.putWords(keeper, known);
            return true;
        }

        private static boolean takeSea(Tape tape, Light light) {
            int place = tape.takeNumber(0, PLACES - 1);
            if (place < 0) {
                return false;
            }
            int height = tape.takeNumber(0, TOP_HEIGHT);
            if (height < 0) {
                return false;
            }
            light.seas[place] = height;
            return true;
        }
    }

    /** A row of numbers of 8, 16 or 64 bits, with their sign as Java's byte, short and long have it. */
    private static final class Sheet {
        final long[] numbers = new long[SHEET_NUMBERS];
        int width = 0;
        int size = 0;

        static boolean isWidth(int bits) {
            return bits == 0 || bits == 8 || bits == 16 || bits == 64;
        }

        boolean isMissing() {
            return width == 0;
        }

        void layOut(int bits, int n) {
            Arrays.fill(numbers, 0L);
            width = bits;
            size = bits == 0 ? 0 : n;
        }

        void put(int i, long v) {
            if (!within(i, 0, size - 1)) {
                return;
            }
            switch (width) {
                case 8: numbers[i] = (byte) v; break;
                case 16: numbers[i] = (short) v; break;
                default: numbers[i] = v; break;
            }
        }

        boolean hasRange(int from, int n) {
            return from >= 0 && n >= 0 && n <= size - from;
        }
    }
}
