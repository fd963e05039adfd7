/** A soup that turns only as far as the two at the spoon hate each other. */
public final class SpoonHates {
    public static final int BAD = -1, STATE = -2, FULL = -3, NONE = -4;

    private static final int MOST_HELPERS = 5;
    private static final int MOST_HATRED = 9;
    private static final int MOST_OF_NUN = 3;
    private static final int FIRST_NEED = 20;
    private static final int FIRST_NOON = 8;
    private static final int MOST_NEED = 99;
    private static final int MOST_NOON = 12;
    private static final int MOST_DONE = 999;
    private static final int MOST_SLIPS = 6;
    private static final int MOST_CAUSE = 9;
    private static final int MOST_PLANNED = 8;
    private static final int MOST_SEEN = 6;
    private static final int MOST_SEEN_STEPS = 9;
    private static final int MOST_TURN = 18;
    private static final int MOST_BYTES = 160;
    private static final int MOST_FIGURES = 2;
    private static final int MOST_CELLS = 40;
    private static final int MOST_READ = 12;
    private static final int MOST_DRIFT = 60;
    private static final int LONGEST_ROW = 4;
    private static final int MOST_PAIRS = 10;
    private static final int IMAGES = 2;
    private static final int SHEETS = 4;
    /** From here on a "what" asks for one of several by its place. */
    private static final int BY_PLACE = 10;
    /** Hatreds sink at every second stirring at the least, so none outlasts this. */
    private static final int LONGER_THAN_ANY_LASTS = 100;

    private static final int PLAIN = 0, SULLEN = 1, NUN = 2, BROTHER = 3;
    private static final int HATE = 4, BOTH = 5, POT = 6, SLIP = 7, PLAN = 8, NO_LINE = 9;
    private static final int NAME = 0, NUMBER = 1, SEMICOLON = 2, TAPE_END = 3, NO_TOKEN = 4;
    private static final int BYTES = 0, SHORTS = 1, INTS = 2;

    private static final int NOT_A_TOKEN = 1, OUT_OF_PLACE = 2, OUT_OF_BOUNDS = 3, TOLD_TWICE = 4,
            TOO_MANY = 5, NO_SUCH_HELPER = 6;
    private static final int NULL_FAULT = 1, INDEX_FAULT = 2, CAST_FAULT = 3, SIZE_FAULT = 4;

    private final Kitchen now = new Kitchen();
    private final Kitchen[] images = new Kitchen[IMAGES];
    /** A bit for each image that there is. */
    private int kept = 0;
    private final Reader reader = new Reader();
    private final Tape tape = reader.tape;
    /** The soup that is stirred where nothing may be changed. */
    private final Soup trial = new Soup();
    private final Rows rows = new Rows();
    private final Match pairing = new Match();
    private final Sheet[] sheets = new Sheet[SHEETS];
    private int textFault = 0;
    private int sheetFault = 0;

    public SpoonHates() {
        for (int k = 0; k < IMAGES; k++) {
            images[k] = new Kitchen();
        }
        for (int k = 0; k < SHEETS; k++) {
            sheets[k] = new Sheet();
        }
    }

    // ---- the text

    public int feed(int c) {
        if (!isWithin(c, 0, 127)) {
            return BAD;
        }
        if (tape.length >= MOST_BYTES) {
            return FULL;
        }
        tape.bytes[tape.length] = (byte) c;
        tape.length++;
        return tape.length;
    }

    public int end(int n) {
        if (!isWithin(n, 0, tape.length)) {
            return BAD;
        }
        int had = tape.length;
        tape.length = n;
        return had;
    }

    public int text() {
        boolean taken = reader.readAll();
        tape.length = 0;
        textFault = reader.fault;
        if (!taken) {
            return -10 - reader.faultPlace;
        }
        now.copyFrom(reader.draft);
        kept = 0;
        return reader.lines;
    }

    public int fault() {
        return textFault;
    }

    public int rule(int what) {
        switch (what) {
            case 0: return now.soup.helpers;
            case 1: return now.soup.need;
            case 2: return now.soup.noon;
            case 3: return now.soup.step;
            case 4: return now.soup.done;
            case 5: return now.soup.isSet ? 1 : 0;
            case 6: return now.slips.count;
            case 7: return now.slips.used;
            case 8: return now.plan.count;
            default: return BAD;
        }
    }

    public int helper(int a) {
        return now.soup.isHelper(a) ? now.soup.kinds[a] : BAD;
    }

    public int hatred(int a, int b, int what) {
        if (!now.soup.areTwo(a, b) || !isWithin(what, 0, 1)) {
            return BAD;
        }
        return what == 0 ? now.soup.hatredOf(a, b) : now.soup.feelingOf(a, b);
    }

    public int slip(int i, int what) {
        if (!now.slips.has(i)) {
            return BAD;
        }
        switch (what) {
            case 0: return now.slips.helpers[i];
            case 1: return now.slips.others[i];
            case 2: return now.slips.causes[i];
            case 3: return now.slips.isUsed(i) ? 1 : 0;
            default: return BAD;
        }
    }

    public int plan(int i) {
        return i >= 0 && i < now.plan.count ? now.plan.pairs[i] : BAD;
    }

    // ---- what is changed

    public int hate(int a, int b, int v) {
        if (!now.soup.areTwo(a, b) || !isWithin(v, 0, MOST_HATRED)) {
            return BAD;
        }
        int was = now.soup.hatredOf(a, b);
        now.soup.setHatred(a, b, v);
        return was;
    }

    public int use(int i) {
        if (!now.slips.has(i)) {
            return BAD;
        }
        if (now.slips.isUsed(i)) {
            return STATE;
        }
        now.slips.used |= 1 << i;
        return now.slips.worsen(now.soup, i);
    }

    public int tell(int a, int b) {
        if (!now.soup.areTwo(a, b)) {
            return BAD;
        }
        int then = Math.max(now.soup.hatredOf(a, b), now.soup.hatredOf(b, a));
        now.soup.setHatred(a, b, then);
        return then;
    }

    public int forgive(int a) {
        return now.soup.isHelper(a) ? now.soup.forgiveAll(a) : BAD;
    }

    public int teach(int a, int kind) {
        if (!now.soup.isHelper(a) || !isWithin(kind, PLAIN, BROTHER)) {
            return BAD;
        }
        int was = now.soup.kinds[a];
        now.soup.kinds[a] = kind;
        return was;
    }

    public int set(int what, int v) {
        if (!isWithin(what, 0, 1) || !isWithin(v, 1, what == 0 ? MOST_NEED : MOST_NOON)) {
            return BAD;
        }
        return what == 0 ? changeNeed(v) : changeNoon(v);
    }

    private int changeNeed(int v) {
        int was = now.soup.need;
        now.soup.need = v;
        return was;
    }

    private int changeNoon(int v) {
        if (now.soup.step > v) {
            return STATE;
        }
        int was = now.soup.noon;
        now.soup.noon = v;
        return was;
    }

    public int plans(int a, int b) {
        if (!now.soup.areTwo(a, b)) {
            return BAD;
        }
        if (now.plan.isFull()) {
            return FULL;
        }
        now.plan.add(a, b);
        return now.plan.count;
    }

    public int cut(int n) {
        if (!isWithin(n, 0, now.plan.count)) {
            return BAD;
        }
        int had = now.plan.count;
        now.plan.count = n;
        return had;
    }

    // ---- stirring

    public int turn(int a, int b) {
        return now.soup.areTwo(a, b) ? now.soup.turnOf(a, b) : BAD;
    }

    public int stir(int a, int b) {
        if (!now.soup.areTwo(a, b)) {
            return BAD;
        }
        if (!now.soup.canBeStirred()) {
            return STATE;
        }
        now.soup.stirOnce(a, b);
        return now.soup.done;
    }

    public int runs(int what) {
        if (!isWithin(what, 0, 4)) {
            return BAD;
        }
        trial.copyFrom(now.soup);
        int firstIdle = now.plan.stirAll(trial);
        switch (what) {
            case 0: return trial.done;
            case 1: return trial.step;
            case 2: return trial.isSet ? 1 : 0;
            case 3: return trial.allHatred();
            default: return firstIdle;
        }
    }

    public int ahead(int a, int b, int n) {
        if (!now.soup.areTwo(a, b) || !isWithin(n, 0, MOST_NOON)) {
            return BAD;
        }
        trial.copyFrom(now.soup);
        for (int i = 0; i < n && trial.canBeStirred(); i++) {
            trial.stirOnce(a, b);
        }
        return trial.done;
    }

    public int lasts(int a, int b) {
        if (!now.soup.areTwo(a, b)) {
            return BAD;
        }
        if (now.soup.isSet) {
            return 0;
        }
        trial.copyFrom(now.soup);
        int steps = 0;
        while (steps < LONGER_THAN_ANY_LASTS && trial.turnOf(a, b) > 0) {
            trial.stirOnce(a, b);
            steps++;
        }
        return steps;
    }

    public int three(int a, int b, int c) {
        if (!now.soup.areTwo(a, b) || !now.soup.areTwo(b, c) || !now.soup.areTwo(a, c)) {
            return BAD;
        }
        return Math.max(leastRound(a, b, c), leastRound(a, c, b));
    }

    private int leastRound(int a, int b, int c) {
        int first = now.soup.feelingOf(a, b);
        int second = now.soup.feelingOf(b, c);
        int third = now.soup.feelingOf(c, a);
        return Math.min(first, Math.min(second, third));
    }

    // ---- who with whom

    public int best(int n, int what) {
        if (!isWithin(n, 0, LONGEST_ROW) || !isWithin(what, 0, 1) && !asksPlaceInRow(what)) {
            return BAD;
        }
        rows.seekBest(now.soup, n);
        if (what == 0) {
            return rows.foundDone;
        }
        return what == 1 ? rows.foundHatred : rows.foundPair(what - BY_PLACE);
    }

    public int few(int what) {
        if (what != 0 && !asksPlaceInRow(what)) {
            return BAD;
        }
        if (!rows.seekFewest(now.soup)) {
            return NONE;
        }
        return what == 0 ? rows.foundLength : rows.foundPair(what - BY_PLACE);
    }

    private static boolean asksPlaceInRow(int what) {
        return isWithin(what, BY_PLACE, BY_PLACE + LONGEST_ROW - 1);
    }

    public int slips(int what) {
        if (!isWithin(what, 0, 1)) {
            return BAD;
        }
        int found = fewestSlips();
        if (found < 0) {
            return NONE;
        }
        return what == 0 ? Integer.bitCount(found) : found;
    }

    /** The least set (bits) of the fewest slips by which the plan does what is needed; NONE. */
    private int fewestSlips() {
        int found = NONE;
        int fewest = MOST_SLIPS + 1;
        for (int chosen = 0; chosen < 1 << now.slips.count; chosen++) {
            boolean areFree = (chosen & now.slips.used) == 0;
            if (areFree && Integer.bitCount(chosen) < fewest && sufficeForNeed(chosen)) {
                found = chosen;
                fewest = Integer.bitCount(chosen);
            }
        }
        return found;
    }

    private boolean sufficeForNeed(int chosen) {
        trial.copyFrom(now.soup);
        for (int i = 0; i < now.slips.count; i++) {
            if ((chosen >> i & 1) == 1) {
                now.slips.worsen(trial, i);
            }
        }
        now.plan.stirAll(trial);
        return trial.done >= trial.need;
    }

    public int mate(int a) {
        if (!now.soup.isHelper(a)) {
            return BAD;
        }
        int found = NONE;
        int most = -1;
        for (int b = 0; b < now.soup.helpers; b++) {
            if (b != a && now.soup.turnOf(a, b) > most) {
                found = b;
                most = now.soup.turnOf(a, b);
            }
        }
        return found;
    }

    public int match(int what) {
        int a = what - BY_PLACE;
        if (what != 0 && !(what >= BY_PLACE && now.soup.isHelper(a))) {
            return BAD;
        }
        pairing.seek(now.soup);
        return what == 0 ? pairing.foundSum : pairing.found[a];
    }

    // ---- what it was

    public int see(int n, int v) {
        if (!isWithin(n, 0, MOST_SEEN_STEPS) || !isWithin(v, 0, MOST_TURN)) {
            return BAD;
        }
        if (now.seen.isFull()) {
            return FULL;
        }
        now.seen.add(n, v);
        return now.seen.count;
    }

    public int forget(int n) {
        if (!isWithin(n, 0, now.seen.count)) {
            return BAD;
        }
        int had = now.seen.count;
        now.seen.count = n;
        return had;
    }

    public int fits(int a, int b, int what) {
        if (!now.soup.areTwo(a, b) || !isWithin(what, 0, 2)) {
            return BAD;
        }
        int many = 0;
        int least = NONE;
        int greatest = NONE;
        for (int hatreds = 0; hatreds < 100; hatreds++) {
            if (wouldBeAsSeen(a, b, hatreds)) {
                least = many == 0 ? hatreds : least;
                greatest = hatreds;
                many++;
            }
        }
        if (what == 0) {
            return many;
        }
        return what == 1 ? least : greatest;
    }

    private boolean wouldBeAsSeen(int a, int b, int hatreds) {
        trial.copyFrom(now.soup);
        trial.setHatred(a, b, hatreds / 10);
        trial.setHatred(b, a, hatreds % 10);
        for (int n = 0; n <= MOST_SEEN_STEPS; n++) {
            if (!now.seen.allows(n, trial.turnOf(a, b))) {
                return false;
            }
            if (!trial.isSet) {
                trial.stirOnce(a, b);
            }
        }
        return true;
    }

    public int forgave(int v) {
        if (!isWithin(v, 0, MOST_DONE)) {
            return BAD;
        }
        int bits = 0;
        for (int a = 0; a < now.soup.helpers; a++) {
            trial.copyFrom(now.soup);
            trial.forgiveAll(a);
            now.plan.stirAll(trial);
            if (trial.done == v) {
                bits |= 1 << a;
            }
        }
        return bits;
    }

    // ---- love

    public long luck(int v, int a, int b, int what) {
        return isLoveAsked(v, a, b, what) ? byLove(v, a, b, what, true) : BAD;
    }

    public long mean(int v, int a, int b, int what) {
        return isLoveAsked(v, a, b, what) ? byLove(v, a, b, what, false) : BAD;
    }

    private boolean isLoveAsked(int v, int a, int b, int what) {
        return isWithin(v, 0, 10) && now.soup.areTwo(a, b) && isWithin(what, 0, 1);
    }

    /** Love ends the turning for good, so only the steps ahead of it tell what is done. */
    private long byLove(int v, int a, int b, int what, boolean isOfNeed) {
        trial.copyFrom(now.soup);
        long sum = 0;
        long unloved = 1;
        long all = 1;
        for (int i = 0; i < MOST_NOON && trial.canBeStirred(); i++) {
            sum = 10 * sum + unloved * v * worthOfTrial(isOfNeed);
            unloved *= 10 - v;
            all *= 10;
            trial.stirOnce(a, b);
        }
        sum += unloved * worthOfTrial(isOfNeed);
        long shared = commonDivisor(all, sum);
        if (shared < 1) {
            return BAD;
        }
        return what == 0 ? sum / shared : all / shared;
    }

    private int worthOfTrial(boolean isOfNeed) {
        if (isOfNeed) {
            return trial.done >= trial.need ? 1 : 0;
        }
        return trial.done;
    }

    private static long commonDivisor(long one, long other) {
        long greater = one;
        long lesser = other;
        for (int i = 0; i < 1000 && lesser != 0; i++) {
            long rest = greater % lesser;
            greater = lesser;
            lesser = rest;
        }
        return greater;
    }

    // ---- by a seed

    public int drift(int seed, int n, int what) {
        if (!isWithin(n, 1, MOST_DRIFT) || !isWithin(what, 0, 1)) {
            return BAD;
        }
        int helpers = now.soup.helpers;
        if (helpers < 2) {
            return STATE;
        }
        trial.copyFrom(now.soup);
        int grown = seed;
        for (int i = 0; i < n && !trial.isSet; i++) {
            grown = grow(grown);
            int a = bitsOf(grown) % helpers;
            grown = grow(grown);
            int b = bitsOf(grown) % helpers;
            trial.stirOnce(a, b == a ? (a + 1) % helpers : b);
        }
        return what == 0 ? trial.done : trial.allHatred();
    }

    private static int grow(int seed) {
        return seed * 1103515245 + 12345;
    }

    private static int bitsOf(int seed) {
        return seed >>> 16 & 0x7FFF;
    }

    // ---- images, sheets

    public int keep(int k) {
        if (!isWithin(k, 0, IMAGES - 1)) {
            return BAD;
        }
        int was = kept >> k & 1;
        images[k].copyFrom(now);
        kept |= 1 << k;
        return was;
    }

    public int back(int k) {
        if (!isWithin(k, 0, IMAGES - 1)) {
            return BAD;
        }
        if ((kept >> k & 1) == 0) {
            return STATE;
        }
        now.copyFrom(images[k]);
        return now.soup.done;
    }

    public int sheet(int k, int lane, int n) {
        if (!isWithin(k, 0, SHEETS - 1) || !isWithin(lane, BYTES, INTS) || n > MOST_CELLS) {
            return BAD;
        }
        if (n < 0) {
            return -10 - SIZE_FAULT;
        }
        sheets[k].renew(lane, n);
        return 1;
    }

    public int lay(int k, int i, int v) {
        if (!isWithin(k, 0, SHEETS - 1)) {
            return BAD;
        }
        if (sheets[k].isNothing()) {
            return -10 - NULL_FAULT;
        }
        if (!sheets[k].has(i)) {
            return -10 - INDEX_FAULT;
        }
        sheets[k].layDown(i, v);
        return 1;
    }

    public int read(int k, int lane, int f, int n) {
        if (!isWithin(k, 0, SHEETS - 1) || !isWithin(lane, BYTES, INTS) || !isWithin(n, 0, MOST_READ)) {
            return BAD;
        }
        Sheet sheet = sheets[k];
        int met = n == 0 ? 0 : sheet.faultAs(lane);
        int stirred = 0;
        trial.copyFrom(now.soup);
        for (int i = 0; i < n && met == 0; i++) {
            int place = f + 2 * i;
            if (!sheet.has(place) || !sheet.has(place + 1)) {
                met = INDEX_FAULT;
            } else if (trial.stirsIfMay(sheet.cells[place], sheet.cells[place + 1])) {
                stirred++;
            } else {
                return -20 - i;
            }
        }
        now.soup.copyFrom(trial);
        sheetFault = met;
        return stirred;
    }

    public int torn() {
        return sheetFault;
    }

    public int count(int what) {
        switch (what) {
            case 0: return now.soup.allHatred();
            case 1: return now.seen.count;
            case 2: return Integer.bitCount(kept);
            case 3: return tape.length;
            case 4: return sheets[0].isNothing() ? NONE : sheets[0].length;
            default: return BAD;
        }
    }

    private static boolean isWithin(int v, int least, int most) {
        return v >= least && v <= most;
    }

    /** The helpers and the pot: all that a stirring looks at or changes. */
    private static final class Soup {
        int helpers = 0;
        int need = FIRST_NEED;
        int noon = FIRST_NOON;
        int step = 0;
        int done = 0;
        boolean isSet = false;
        final int[] kinds = new int[MOST_HELPERS];
        /** That of one for another one stands at 5 times the one and the other. */
        final int[] hatreds = new int[MOST_HELPERS * MOST_HELPERS];

        void copyFrom(Soup other) {
            helpers = other.helpers;
            need = other.need;
            noon = other.noon;
            step = other.step;
            done = other.done;
            isSet = other.isSet;
            System.arraycopy(other.kinds, 0, kinds, 0, MOST_HELPERS);
            System.arraycopy(other.hatreds, 0, hatreds, 0, MOST_HELPERS * MOST_HELPERS);
        }

        boolean isHelper(int a) {
            return a >= 0 && a < helpers;
        }

        boolean areTwo(int a, int b) {
            return isHelper(a) && isHelper(b) && a != b;
        }

        int hatredOf(int a, int b) {
            return hatreds[a * MOST_HELPERS + b];
        }

        void setHatred(int a, int b, int v) {
            hatreds[a * MOST_HELPERS + b] = v;
        }

        int feelingOf(int a, int b) {
            int hatred = hatreds[a * MOST_HELPERS + b];
            switch (kinds[a]) {
                case SULLEN: return hatred > 0 ? hatred - 1 : 0;
                case NUN: return hatred < MOST_OF_NUN ? hatred : MOST_OF_NUN;
                case BROTHER: return 2 * hatred;
                default: return hatred;
            }
        }

        int turnOf(int a, int b) {
            return Math.min(feelingOf(a, b), feelingOf(b, a));
        }

        boolean canBeStirred() {
            return !isSet && step < noon;
        }

        /** Looks at no noon: some who ask leave it aside. */
        void stirOnce(int a, int b) {
            if (hatredOf(a, b) == 0 && hatredOf(b, a) == 0) {
                isSet = true;
            } else {
                done = Math.min(MOST_DONE, done + turnOf(a, b));
            }
            cool(a, b);
            cool(b, a);
            step++;
        }

        private void cool(int a, int b) {
            int less = 1;
            if (kinds[a] == SULLEN) {
                less = step % 2;
            } else if (kinds[a] == BROTHER) {
                less = 2;
            }
            setHatred(a, b, Math.max(0, hatredOf(a, b) - less));
        }

        boolean stirsIfMay(int a, int b) {
            boolean may = areTwo(a, b) && canBeStirred();
            if (may) {
                stirOnce(a, b);
            }
            return may;
        }

        int forgiveAll(int a) {
            int changed = 0;
            for (int b = 0; b < helpers; b++) {
                if (b != a && hatredOf(a, b) > 0) {
                    setHatred(a, b, 0);
                    changed++;
                }
            }
            return changed;
        }

        int allHatred() {
            int sum = 0;
            for (int i = 0; i < hatreds.length; i++) {
                sum += hatreds[i];
            }
            return sum;
        }
    }

    /** Slips with causes, and which of them are used. */
    private static final class Slips {
        int count = 0;
        int used = 0;
        final int[] helpers = new int[MOST_SLIPS];
        final int[] others = new int[MOST_SLIPS];
        final int[] causes = new int[MOST_SLIPS];

        void copyFrom(Slips other) {
            count = other.count;
            used = other.used;
            System.arraycopy(other.helpers, 0, helpers, 0, MOST_SLIPS);
            System.arraycopy(other.others, 0, others, 0, MOST_SLIPS);
            System.arraycopy(other.causes, 0, causes, 0, MOST_SLIPS);
        }

        boolean has(int i) {
            return i >= 0 && i < count;
        }

        boolean isUsed(int i) {
            return (used >> i & 1) == 1;
        }

        boolean isFull() {
            return count >= MOST_SLIPS;
        }

        void add(int a, int b, int cause) {
            helpers[count] = a;
            others[count] = b;
            causes[count] = cause;
            count++;
        }

        int worsen(Soup soup, int i) {
            int then = Math.min(MOST_HATRED, soup.hatredOf(helpers[i], others[i]) + causes[i]);
            soup.setHatred(helpers[i], others[i], then);
            return then;
        }
    }

    /** Pairs, by their numbers, one behind another. */
    private static final class Plan {
        int count = 0;
        final int[] pairs = new int[MOST_PLANNED];

        void copyFrom(Plan other) {
            count = other.count;
            System.arraycopy(other.pairs, 0, pairs, 0, MOST_PLANNED);
        }

        boolean isFull() {
            return count >= MOST_PLANNED;
        }

        void add(int a, int b) {
            pairs[count] = 10 * Math.min(a, b) + Math.max(a, b);
            count++;
        }

        /** Answers the place of the first pair at which nobody stirs; NONE. */
        int stirAll(Soup soup) {
            for (int i = 0; i < count; i++) {
                if (!soup.canBeStirred()) {
                    return i;
                }
                soup.stirOnce(pairs[i] / 10, pairs[i] % 10);
            }
            return NONE;
        }
    }

    /** What the turns of two were, behind so many steps. */
    private static final class Seen {
        int count = 0;
        final int[] steps = new int[MOST_SEEN];
        final int[] turns = new int[MOST_SEEN];

        void copyFrom(Seen other) {
            count = other.count;
            System.arraycopy(other.steps, 0, steps, 0, MOST_SEEN);
            System.arraycopy(other.turns, 0, turns, 0, MOST_SEEN);
        }

        boolean isFull() {
            return count >= MOST_SEEN;
        }

        void add(int n, int v) {
            steps[count] = n;
            turns[count] = v;
            count++;
        }

        boolean allows(int n, int v) {
            for (int i = 0; i < count; i++) {
                if (steps[i] == n && turns[i] != v) {
                    return false;
                }
            }
            return true;
        }
    }

    /** All that a text tells and an image holds. */
    private static final class Kitchen {
        final Soup soup = new Soup();
        final Slips slips = new Slips();
        final Plan plan = new Plan();
        final Seen seen = new Seen();

        void copyFrom(Kitchen other) {
            soup.copyFrom(other.soup);
            slips.copyFrom(other.slips);
            plan.copyFrom(other.plan);
            seen.copyFrom(other.seen);
        }

        void clear() {
            soup.helpers = 0;
            soup.need = FIRST_NEED;
            soup.noon = FIRST_NOON;
            soup.step = 0;
            soup.done = 0;
            soup.isSet = false;
            for (int i = 0; i < soup.hatreds.length; i++) {
                soup.hatreds[i] = 0;
            }
            slips.count = 0;
            slips.used = 0;
            plan.count = 0;
            seen.count = 0;
        }
    }

    /** The bytes, and the token that has been read of them. */
    private static final class Tape {
        final byte[] bytes = new byte[MOST_BYTES];
        int length = 0;
        /** The token goes from start up to next. */
        int start = 0;
        int next = 0;

        void rewind() {
            next = 0;
        }

        int readToken() {
            while (next < length && bytes[next] == ' ') {
                next++;
            }
            start = next;
            if (next >= length) {
                return TAPE_END;
            }
            if (bytes[next] == ';') {
                next++;
                return SEMICOLON;
            }
            boolean mayBeName = bytes[next] >= 'a';
            char least = mayBeName ? 'a' : '0';
            char most = mayBeName ? 'z' : '9';
            while (next < length && bytes[next] >= least && bytes[next] <= most) {
                next++;
            }
            int many = next - start;
            if (mayBeName) {
                return many > 0 ? NAME : NO_TOKEN;
            }
            return many > 0 && many <= MOST_FIGURES ? NUMBER : NO_TOKEN;
        }

        int number() {
            int n = 0;
            for (int i = start; i < next; i++) {
                n = 10 * n + bytes[i] - '0';
            }
            return n;
        }

        boolean isName(String name) {
            if (next - start != name.length()) {
                return false;
            }
            for (int i = 0; i < name.length(); i++) {
                if (bytes[start + i] != name.charAt(i)) {
                    return false;
                }
            }
            return true;
        }
    }

    /** Reads the tape into a draft, so that a text with a fault leaves what was told. */
    private static final class Reader {
        final Kitchen draft = new Kitchen();
        int lines = 0;
        int fault = 0;
        int faultPlace = 0;
        final Tape tape = new Tape();
        /** A bit for each place in hatreds that is told. */
        private int hatredsTold = 0;
        private boolean potTold = false;
        private int greatestHelper = -1;

        boolean readAll() {
            draft.clear();
            tape.rewind();
            lines = 0;
            fault = 0;
            hatredsTold = 0;
            potTold = false;
            greatestHelper = -1;
            int token = tape.readToken();
            while (token != TAPE_END && lines < MOST_BYTES) {
                if (!readLine(token)) {
                    return false;
                }
                lines++;
                token = tape.readToken();
            }
            return greatestHelper < draft.soup.helpers || fails(NO_SUCH_HELPER);
        }

        private boolean readLine(int token) {
            if (token == NO_TOKEN) {
                return fails(NOT_A_TOKEN);
            }
            int line = token == NAME ? lineOfName() : NO_LINE;
            switch (line) {
                case NO_LINE: return fails(OUT_OF_PLACE);
                case HATE: return readHatred(false) && readSemicolon();
                case BOTH: return readHatred(true) && readSemicolon();
                case POT: return readPot() && readSemicolon();
                case SLIP: return readSlip() && readSemicolon();
                case PLAN: return readPlan() && readSemicolon();
                default: return addHelper(line) && readSemicolon();
            }
        }

        private int lineOfName() {
            if (tape.isName("plain")) {
                return PLAIN;
            }
            if (tape.isName("sullen")) {
                return SULLEN;
            }
            if (tape.isName("nun")) {
                return NUN;
            }
            if (tape.isName("brother")) {
                return BROTHER;
            }
            if (tape.isName("hate")) {
                return HATE;
            }
            if (tape.isName("both")) {
                return BOTH;
            }
            if (tape.isName("pot")) {
                return POT;
            }
            if (tape.isName("slip")) {
                return SLIP;
            }
            return tape.isName("plan") ? PLAN : NO_LINE;
        }

        private boolean addHelper(int kind) {
            if (draft.soup.helpers >= MOST_HELPERS) {
                return fails(TOO_MANY);
            }
            draft.soup.kinds[draft.soup.helpers] = kind;
            draft.soup.helpers++;
            return true;
        }

        private boolean readHatred(boolean isBoth) {
            int a = readHelper(-1);
            int b = a < 0 ? -1 : readHelper(a);
            if (b < 0) {
                return false;
            }
            int ahead = 1 << a * MOST_HELPERS + b;
            int behind = isBoth ? 1 << b * MOST_HELPERS + a : 0;
            if ((hatredsTold & (ahead | behind)) != 0) {
                return fails(TOLD_TWICE);
            }
            hatredsTold |= ahead | behind;
            int v = readNumber(0, MOST_HATRED);
            if (v < 0) {
                return false;
            }
            draft.soup.setHatred(a, b, v);
            if (isBoth) {
                draft.soup.setHatred(b, a, v);
            }
            return true;
        }

        private boolean readPot() {
            if (potTold) {
                return fails(TOLD_TWICE);
            }
            potTold = true;
            int need = readNumber(1, MOST_NEED);
            int noon = need < 0 ? -1 : readNumber(1, MOST_NOON);
            if (noon < 0) {
                return false;
            }
            draft.soup.need = need;
            draft.soup.noon = noon;
            return true;
        }

        private boolean readSlip() {
            if (draft.slips.isFull()) {
                return fails(TOO_MANY);
            }
            int a = readHelper(-1);
            int b = a < 0 ? -1 : readHelper(a);
            int cause = b < 0 ? -1 : readNumber(1, MOST_CAUSE);
            if (cause < 0) {
                return false;
            }
            draft.slips.add(a, b, cause);
            return true;
        }

        private boolean readPlan() {
            if (draft.plan.isFull()) {
                return fails(TOO_MANY);
            }
            int a = readHelper(-1);
            int b = a < 0 ? -1 : readHelper(a);
            if (b < 0) {
                return false;
            }
            draft.plan.add(a, b);
            return true;
        }

        /** A helper who is not the one told; -1 by a fault. */
        private int readHelper(int notThis) {
            int a = readNumber(0, MOST_HELPERS - 1);
            if (a >= 0 && a == notThis) {
                fails(OUT_OF_BOUNDS);
                return -1;
            }
            greatestHelper = Math.max(greatestHelper, a);
            return a;
        }

        /** A number in its bounds; -1 by a fault. */
        private int readNumber(int least, int most) {
            int token = tape.readToken();
            if (token != NUMBER) {
                fails(token == NO_TOKEN ? NOT_A_TOKEN : OUT_OF_PLACE);
                return -1;
            }
            int v = tape.number();
            if (v < least || v > most) {
                fails(OUT_OF_BOUNDS);
                return -1;
            }
            return v;
        }

        private boolean readSemicolon() {
            int token = tape.readToken();
            if (token == SEMICOLON) {
                return true;
            }
            return fails(token == NO_TOKEN ? NOT_A_TOKEN : OUT_OF_PLACE);
        }

        /** Never true: the caller hands it on. The token read last bears the fault. */
        private boolean fails(int what) {
            fault = what;
            faultPlace = tape.start;
            return false;
        }
    }

    /** Walks through all rows of so many pairs by numbers, each stirred from the soup as it is. */
    private static final class Rows {
        int foundDone = 0;
        int foundHatred = 0;
        int foundLength = 0;
        private final int[] found = new int[LONGEST_ROW];
        private final int[] pairs = new int[MOST_PAIRS];
        private int pairCount = 0;
        private int length = 0;
        private final int[] chosen = new int[LONGEST_ROW];
        /** The soup behind so many pairs: rows that begin alike share what is stirred. */
        private final Soup[] behind = new Soup[LONGEST_ROW + 1];

        Rows() {
            for (int i = 0; i <= LONGEST_ROW; i++) {
                behind[i] = new Soup();
            }
        }

        void seekBest(Soup soup, int n) {
            begin(soup, n);
            takeRow();
            for (int left = rowCount() - 1; left > 0; left--) {
                advance();
                Soup last = behind[length];
                if (last.done > foundDone || last.done == foundDone && last.allHatred() < foundHatred) {
                    takeRow();
                }
            }
        }

        boolean seekFewest(Soup soup) {
            for (int n = 0; n <= LONGEST_ROW; n++) {
                begin(soup, n);
                for (int left = rowCount(); left > 0; left--) {
                    if (behind[length].done >= soup.need) {
                        takeRow();
                        return true;
                    }
                    advance();
                }
            }
            return false;
        }

        int foundPair(int i) {
            return i >= 0 && i < foundLength ? found[i] : NONE;
        }

        /** Where there are no pairs, the row without any is all there is. */
        private void begin(Soup soup, int n) {
            listPairs(soup.helpers);
            length = pairCount == 0 ? 0 : n;
            behind[0].copyFrom(soup);
            for (int i = 0; i < length; i++) {
                chosen[i] = 0;
            }
            stirFrom(0);
        }

        private void listPairs(int helpers) {
            pairCount = 0;
            for (int a = 0; a < helpers; a++) {
                for (int b = a + 1; b < helpers; b++) {
                    pairs[pairCount] = 10 * a + b;
                    pairCount++;
                }
            }
        }

        private int rowCount() {
            int rows = 1;
            for (int i = 0; i < length; i++) {
                rows *= pairCount;
            }
            return rows;
        }

        private void advance() {
            int i = length - 1;
            while (i >= 0 && chosen[i] + 1 >= pairCount) {
                chosen[i] = 0;
                i--;
            }
            if (i >= 0) {
                chosen[i]++;
                stirFrom(i);
            }
        }

        private void stirFrom(int first) {
            for (int i = first; i < length; i++) {
                Soup soup = behind[i + 1];
                soup.copyFrom(behind[i]);
                int pair = pairs[chosen[i]];
                if (soup.canBeStirred()) {
                    soup.stirOnce(pair / 10, pair % 10);
                }
            }
        }

        private void takeRow() {
            foundDone = behind[length].done;
            foundHatred = behind[length].allHatred();
            foundLength = length;
            for (int i = 0; i < length; i++) {
                found[i] = pairs[chosen[i]];
            }
        }
    }

    /** Who goes with whom, over all spoons. */
    private static final class Match {
        int foundSum = 0;
        final int[] found = new int[MOST_HELPERS];
        private final int[] mates = new int[MOST_HELPERS];
        /** How far behind a helper its mate stands; 0: it takes none. */
        private final int[] reach = new int[MOST_HELPERS];

        /** Counting up the reaches, the first helper's the dearest, meets the pairings in their order. */
        void seek(Soup soup) {
            int codes = 1;
            for (int a = 0; a < soup.helpers; a++) {
                codes *= a + 1;
            }
            foundSum = -1;
            for (int code = 0; code < codes; code++) {
                tellReaches(code, soup.helpers);
                if (pairsUp(soup.helpers)) {
                    takeIfMore(soup);
                }
            }
        }

        private void tellReaches(int code, int helpers) {
            int rest = code;
            for (int a = helpers - 1; a >= 0; a--) {
                int choices = helpers - a;
                reach[a] = rest % choices;
                rest /= choices;
            }
        }

        /** Whether nobody is to be at two spoons. */
        private boolean pairsUp(int helpers) {
            for (int a = 0; a < helpers; a++) {
                mates[a] = NONE;
            }
            for (int a = 0; a < helpers; a++) {
                int b = a + reach[a];
                if (b != a) {
                    if (mates[a] != NONE || mates[b] != NONE) {
                        return false;
                    }
                    mates[a] = b;
                    mates[b] = a;
                }
            }
            return true;
        }

        private void takeIfMore(Soup soup) {
            int sum = 0;
            for (int a = 0; a < soup.helpers; a++) {
                if (mates[a] > a) {
                    sum += soup.turnOf(a, mates[a]);
                }
            }
            if (sum > foundSum) {
                foundSum = sum;
                System.arraycopy(mates, 0, found, 0, MOST_HELPERS);
            }
        }
    }

    /** A row of cells of one lane; made once at its longest, so that a new sheet costs nothing. */
    private static final class Sheet {
        int length = -1;
        final int[] cells = new int[MOST_CELLS];
        private int lane = BYTES;

        boolean isNothing() {
            return length < 0;
        }

        boolean has(int i) {
            return i >= 0 && i < length;
        }

        void renew(int newLane, int n) {
            lane = newLane;
            length = n;
            for (int i = 0; i < n; i++) {
                cells[i] = 0;
            }
        }

        void layDown(int i, int v) {
            if (lane == BYTES) {
                cells[i] = (byte) v;
            } else {
                cells[i] = lane == SHORTS ? (short) v : v;
            }
        }

        int faultAs(int asLane) {
            if (isNothing()) {
                return NULL_FAULT;
            }
            return asLane == lane ? 0 : CAST_FAULT;
        }
    }
}
