import java.math.BigInteger;

/** Promises 34 to 36, at their edges: each method is a sentence of the document. */
public final class LoveEdgesTest {
    private static final Due due = new Due("LoveEdgesTest");

    public static void main(String[] args) {
        loveByNoneAndByAll();
        luckIsNeedOrMore();
        loveTillNoon();
        loveOfASetPot();
        loveThatSetsAtOnce();
        fractionsInLowestTerms();
        fractionOfTenToTheTwelfth();
        driftFrom1To60();
        driftOfFewerThanTwo();
        driftNoonAside();
        driftOfASetPot();
        driftWrapsAround();
        driftTheNextOneRound();
        due.close();
    }

    private static void love(String name, SpoonHates x, int v, long luck, long ofLuck, long mean, long ofMean) {
        due.is(name + ": luck(" + v + ", 0, 1, 0)", x.luck(v, 0, 1, 0), luck);
        due.is(name + ": luck(" + v + ", 0, 1, 1)", x.luck(v, 0, 1, 1), ofLuck);
        due.is(name + ": mean(" + v + ", 0, 1, 0)", x.mean(v, 0, 1, 0), mean);
        due.is(name + ": mean(" + v + ", 0, 1, 1)", x.mean(v, 0, 1, 1), ofMean);
        due.is(name + ": luck(" + v + ", 1, 0, 0)", x.luck(v, 1, 0, 0), luck);
        due.is(name + ": mean(" + v + ", 1, 0, 1)", x.mean(v, 1, 0, 1), ofMean);
    }

    private static void loveByNoneAndByAll() {
        SpoonHates x = Due.told("plain;plain;both0 1 9;pot17 2;");
        love("never", x, 0, 1, 1, 17, 1);
        love("always", x, 10, 0, 1, 0, 1);
        due.is("luck(-1, 0, 1, 0)", x.luck(-1, 0, 1, 0), -1);
        due.is("luck(11, 0, 1, 0)", x.luck(11, 0, 1, 0), -1);
        due.is("mean(-1, 0, 1, 0)", x.mean(-1, 0, 1, 0), -1);
        due.is("mean(11, 0, 1, 0)", x.mean(11, 0, 1, 0), -1);
        due.is("luck(5, 0, 1, -1)", x.luck(5, 0, 1, -1), -1);
        due.is("luck(5, 0, 1, 2)", x.luck(5, 0, 1, 2), -1);
        due.is("mean(5, 0, 1, -1)", x.mean(5, 0, 1, -1), -1);
        due.is("mean(5, 0, 1, 2)", x.mean(5, 0, 1, 2), -1);
        due.is("rule(4): nothing is changed", x.rule(4), 0);
        due.is("count(0): nothing is changed", x.count(0), 18);
    }

    private static void luckIsNeedOrMore() {
        SpoonHates x = Due.told("plain;plain;both0 1 9;pot9 2;");
        // no love at all: 17; love ahead of the second alone: 9
        love("just by the first", x, 1, 9, 10, (81 * 17 + 9 * 9) / 2, 50);
        x.set(0, 8);
        love("1 below the first", x, 1, 9, 10, 729, 50);
        x.set(0, 10);
        love("1 above the first", x, 1, 81, 100, 729, 50);
        x.set(0, 17);
        love("just by both", x, 1, 81, 100, 729, 50);
        x.set(0, 18);
        love("1 above both", x, 1, 0, 1, 729, 50);
    }

    private static void loveTillNoon() {
        for (int noon = 1; noon <= 12; noon++) {
            SpoonHates x = Due.told("sullen;sullen;both0 1 9;pot99 " + noon + ";");
            int done = x.ahead(0, 1, noon);
            x.set(0, done);
            due.is("luck(0, ..): all till noon " + noon, x.luck(0, 0, 1, 0), 1);
            due.is("mean(0, ..)", x.mean(0, 0, 1, 0), done);
            long all = 1;
            for (int i = 0; i < noon; i++) {
                all *= 2;
            }
            due.is("luck(5, ..)", x.luck(5, 0, 1, 0), 1);
            due.is("luck(5, .., 1): one half, as often as STEPS are left", x.luck(5, 0, 1, 1), all);
            x.set(0, Math.min(99, done + 1));
            due.is("luck(0, ..): 1 more is too much", x.luck(0, 0, 1, 0), 0);
            due.is("luck(0, .., 1)", x.luck(0, 0, 1, 1), 1);
            for (int i = 0; i < noon; i++) {
                x.stir(0, 1);
            }
            love("at noon, 1 too little", x, 5, 0, 1, done, 1);
            x.set(0, done);
            love("at noon, enough", x, 5, 1, 1, done, 1);
            love("at noon, always love", x, 10, 1, 1, done, 1);
        }
    }

    private static void loveOfASetPot() {
        SpoonHates x = Due.told("plain;plain;plain;both0 1 9;pot9 9;");
        x.stir(0, 1);
        x.stir(0, 2);
        x.hate(0, 2, 5);
        x.hate(2, 0, 5);
        for (int v = 0; v <= 10; v++) {
            love("set, enough", x, v, 1, 1, 9, 1);
        }
        x.set(0, 10);
        for (int v = 0; v <= 10; v++) {
            love("set, 1 too little", x, v, 0, 1, 9, 1);
        }
    }

    private static void loveThatSetsAtOnce() {
        SpoonHates x = Due.told("plain;plain;pot1 12;");
        for (int v = 0; v <= 10; v++) {
            love("neither hates", x, v, 0, 1, 0, 1);
        }
        // one alone hates: no turn, yet it does not set
        x.hate(0, 1, 9);
        for (int v = 0; v <= 10; v++) {
            love("one alone hates", x, v, 0, 1, 0, 1);
        }
    }

    private static void fractionsInLowestTerms() {
        // one STEP of 6: tenths of 1 and of 6
        SpoonHates x = Due.told("plain;plain;both0 1 6;pot6 1;");
        long[][] tenths = {{1, 1}, {9, 10}, {4, 5}, {7, 10}, {3, 5}, {1, 2}, {2, 5}, {3, 10}, {1, 5}, {1, 10}, {0, 1}};
        long[][] sixes = {{6, 1}, {27, 5}, {24, 5}, {21, 5}, {18, 5}, {3, 1}, {12, 5}, {9, 5}, {6, 5}, {3, 5}, {0, 1}};
        for (int v = 0; v <= 10; v++) {
            love("one STEP of 6", x, v, tenths[v][0], tenths[v][1], sixes[v][0], sixes[v][1]);
        }
    }

    private static void fractionOfTenToTheTwelfth() {
        SpoonHates x = Due.told("sullen;sullen;both0 1 9;pot66 12;");
        due.is("ahead(0, 1, 12)", x.ahead(0, 1, 12), 66);
        for (int v : new int[] {1, 3, 7, 9}) {
            due.is("luck(" + v + ", 0, 1, 0)", x.luck(v, 0, 1, 0), BigInteger.valueOf(10 - v).pow(12).longValueExact());
            due.is("luck(" + v + ", 0, 1, 1)", x.luck(v, 0, 1, 1), 1_000_000_000_000L);
        }
    }

    /** The seed as the document has it, here below two to the 32nd. */
    private static long grow(long seed) {
        return (seed * 1103515245L + 12345L) % (1L << 32);
    }

    /** Which pairs a seed lets stir, by 10 times the one and the other one. */
    private static int[] drifters(int seed, int n, int helpers) {
        int[] pairs = new int[n];
        long grown = seed & 0xFFFFFFFFL;
        for (int i = 0; i < n; i++) {
            grown = grow(grown);
            int a = (int) (grown / 65536 % 32768 % helpers);
            grown = grow(grown);
            int b = (int) (grown / 65536 % 32768 % helpers);
            pairs[i] = 10 * a + (b != a ? b : a == helpers - 1 ? 0 : a + 1);
        }
        return pairs;
    }

    /** Each pair turns 9 at first, and 1 less whenever it has been stirred; all sets at the tenth time of one. */
    private static void drifts(SpoonHates x, int seed, int n, int helpers) {
        int[] times = new int[100];
        int done = 0;
        int left = 9 * helpers * (helpers - 1);
        for (int pair : drifters(seed, n, helpers)) {
            int number = 10 * Math.min(pair / 10, pair % 10) + Math.max(pair / 10, pair % 10);
            if (times[number] == 9) {
                break;
            }
            done += 9 - times[number];
            left -= 2;
            times[number]++;
        }
        due.is("drift(" + seed + ", " + n + ", 0) of " + helpers, x.drift(seed, n, 0), done);
        due.is("drift(" + seed + ", " + n + ", 1) of " + helpers, x.drift(seed, n, 1), left);
    }

    private static void driftFrom1To60() {
        for (int helpers = 2; helpers <= 5; helpers++) {
            for (int seed = 0; seed < 3; seed++) {
                SpoonHates x = Due.haters(helpers);
                for (int n = 1; n <= 60; n++) {
                    drifts(x, seed, n, helpers);
                }
                due.is("drift(" + seed + ", 0, 0)", x.drift(seed, 0, 0), -1);
                due.is("drift(" + seed + ", 61, 0)", x.drift(seed, 61, 0), -1);
                due.is("drift(" + seed + ", 1, 2)", x.drift(seed, 1, 2), -1);
                due.is("drift(" + seed + ", 1, -1)", x.drift(seed, 1, -1), -1);
                due.is("rule(3): nothing is changed", x.rule(3), 0);
                due.is("count(0): nothing is changed", x.count(0), 9 * helpers * (helpers - 1));
            }
        }
    }

    private static void driftOfFewerThanTwo() {
        for (int helpers = 0; helpers <= 1; helpers++) {
            SpoonHates x = Due.haters(helpers);
            due.is("drift(1, 1, 0) of " + helpers, x.drift(1, 1, 0), -2);
            due.is("drift(1, 60, 1) of " + helpers, x.drift(1, 60, 1), -2);
            due.is("drift(1, 0, 0) of " + helpers + ": BAD ahead of STATE", x.drift(1, 0, 0), -1);
            due.is("drift(1, 61, 0) of " + helpers + ": BAD ahead of STATE", x.drift(1, 61, 0), -1);
            due.is("drift(1, 1, 2) of " + helpers + ": BAD ahead of STATE", x.drift(1, 1, 2), -1);
        }
        due.is("drift(1, 1, 0) of 2", Due.haters(2).drift(1, 1, 0), 9);
    }

    private static void driftNoonAside() {
        SpoonHates x = Due.told("plain;plain;both0 1 9;pot9 1;");
        due.is("drift(1, 3, 0), noon behind 1", x.drift(1, 3, 0), 24);
        x.stir(0, 1);
        due.is("drift(1, 3, 0) at noon", x.drift(1, 3, 0), 9 + 8 + 7 + 6);
        due.is("drift(1, 3, 1) at noon", x.drift(1, 3, 1), 10);
        // STEP as it is: a sullen one cools at odd ones
        SpoonHates y = Due.told("sullen;sullen;both0 1 9;");
        due.is("drift(1, 1, 1) from STEP 0", y.drift(1, 1, 1), 18);
        due.is("drift(1, 2, 1) from STEP 0", y.drift(1, 2, 1), 16);
        y.stir(0, 1);
        due.is("drift(1, 1, 1) from STEP 1", y.drift(1, 1, 1), 16);
    }

    private static void driftOfASetPot() {
        SpoonHates x = Due.told("plain;plain;both0 1 1;");
        due.is("drift(1, 1, 0)", x.drift(1, 1, 0), 1);
        due.is("drift(1, 60, 0): it sets on the way", x.drift(1, 60, 0), 1);
        due.is("drift(1, 60, 1)", x.drift(1, 60, 1), 0);
        x.stir(0, 1);
        x.stir(0, 1);
        x.hate(0, 1, 9);
        x.hate(1, 0, 9);
        due.is("drift(1, 60, 0), the pot set", x.drift(1, 60, 0), 1);
        due.is("drift(1, 60, 1), the pot set", x.drift(1, 60, 1), 18);
    }

    private static void driftWrapsAround() {
        int[] seeds = {Integer.MIN_VALUE, Integer.MIN_VALUE + 1, -65536, -32768, -2, -1, 0, 32767, 65535, 65536,
            1 << 30, Integer.MAX_VALUE - 1, Integer.MAX_VALUE};
        for (int helpers = 2; helpers <= 5; helpers++) {
            SpoonHates x = Due.haters(helpers);
            for (int seed : seeds) {
                drifts(x, seed, 1, helpers);
                drifts(x, seed, 4, helpers);
                drifts(x, seed, 60, helpers);
            }
        }
    }

    /** For each helper a seed that draws it twice, so that it stirs with the next one: the last with the first. */
    private static void driftTheNextOneRound() {
        for (int helpers = 2; helpers <= 5; helpers++) {
            for (int a = 0; a < helpers; a++) {
                int seed = seedOfTwice(a, helpers);
                SpoonHates x = Due.told("plain;".repeat(helpers));
                int next = a == helpers - 1 ? 0 : a + 1;
                x.hate(a, next, 7);
                x.hate(next, a, 7);
                due.is("drift of " + a + " twice, of " + helpers, x.drift(seed, 1, 0), 7);
                due.is("drift of " + a + " twice, left", x.drift(seed, 1, 1), 12);
            }
        }
    }

    private static int seedOfTwice(int a, int helpers) {
        for (int seed = 0; seed < 10000; seed++) {
            long first = grow(seed);
            long second = grow(first);
            if (first / 65536 % 32768 % helpers == a && second / 65536 % 32768 % helpers == a) {
                return seed;
            }
        }
        throw new IllegalStateException("no seed draws " + a + " twice");
    }
}
