import java.math.BigInteger;

/** Promises 34 to 36: love by odds, steps by a seed. */
public final class LoveTest {
    private static final Due due = new Due("LoveTest");

    public static void main(String[] args) {
        love();
        loveTillNoon();
        loveThatCannotBe();
        longLove();
        drift();
        driftOfThree();
        due.close();
    }

    private static void love(SpoonHates x, int v, long luck, long ofLuck, long mean, long ofMean) {
        due.is("luck(" + v + ", 0, 1, 0)", x.luck(v, 0, 1, 0), luck);
        due.is("luck(" + v + ", 0, 1, 1)", x.luck(v, 0, 1, 1), ofLuck);
        due.is("mean(" + v + ", 1, 0, 0)", x.mean(v, 1, 0, 0), mean);
        due.is("mean(" + v + ", 1, 0, 1)", x.mean(v, 1, 0, 1), ofMean);
    }

    private static void love() {
        SpoonHates x = Due.told("plain;plain;plain;both 0 1 2;pot 3 3;");
        String before = Due.state(x);
        love(x, 0, 1, 1, 3, 1);
        love(x, 3, 49, 100, 189, 100);
        love(x, 5, 1, 4, 5, 4);
        love(x, 10, 0, 1, 0, 1);
        for (int i = 0; i < 2; i++) {
            due.is("of -1", ask(i, x, -1, 0, 1, 0), -1);
            due.is("of 11", ask(i, x, 11, 0, 1, 0), -1);
            due.is("of 0, 0", ask(i, x, 5, 0, 0, 0), -1);
            due.is("of -1, 0", ask(i, x, 5, -1, 0, 0), -1);
            due.is("of 0, 3", ask(i, x, 5, 0, 3, 0), -1);
            due.is("what -1", ask(i, x, 5, 0, 1, -1), -1);
            due.keeps("what 2", x, before, ask(i, x, 5, 0, 1, 2), -1);
        }
        x.set(0, 2);
        love(x, 5, 1, 2, 5, 4);
        x.set(0, 4);
        love(x, 5, 0, 1, 5, 4);
    }

    private static long ask(int which, SpoonHates x, int v, int a, int b, int what) {
        return which == 0 ? x.luck(v, a, b, what) : x.mean(v, a, b, what);
    }

    private static void loveTillNoon() {
        SpoonHates x = Due.told("plain;plain;both 0 1 2;pot 2 1;");
        love(x, 5, 1, 2, 1, 1);
        love(x, 4, 3, 5, 6, 5);
        x.stir(0, 1);
        love(x, 5, 1, 1, 2, 1);
        x.set(1, 2);
        love(x, 5, 1, 1, 5, 2);
        x.set(0, 3);
        love(x, 5, 1, 2, 5, 2);
        x.set(1, 12);
        love(x, 10, 0, 1, 2, 1);
    }

    private static void loveThatCannotBe() {
        SpoonHates x = Due.told("plain;plain;pot 1 9;");
        love(x, 5, 0, 1, 0, 1);
        x.stir(0, 1);
        x.hate(0, 1, 9);
        x.hate(1, 0, 9);
        love(x, 5, 0, 1, 0, 1);
    }

    /** Twelve steps of two sullen ones: 8 8 7 7 6 6 5 5 4 4 3 3. */
    private static void longLove() {
        SpoonHates x = Due.told("sullen;sullen;both 0 1 9;pot 61 12;");
        int[] done = new int[13];
        for (int i = 0; i < 12; i++) {
            done[i + 1] = done[i] + 8 - i / 2;
        }
        for (int v = 0; v <= 10; v++) {
            BigInteger sum = BigInteger.ZERO;
            BigInteger lucky = BigInteger.ZERO;
            BigInteger all = BigInteger.TEN.pow(12);
            for (int k = 0; k <= 12; k++) {
                BigInteger odds = BigInteger.valueOf(10 - v).pow(k);
                if (k < 12) {
                    odds = odds.multiply(BigInteger.valueOf(v)).multiply(BigInteger.TEN.pow(11 - k));
                }
                sum = sum.add(odds.multiply(BigInteger.valueOf(done[k])));
                lucky = done[k] >= 61 ? lucky.add(odds) : lucky;
            }
            BigInteger ofSum = sum.gcd(all);
            BigInteger ofLucky = lucky.gcd(all);
            love(x, v, lucky.divide(ofLucky).longValueExact(), all.divide(ofLucky).longValueExact(),
                    sum.divide(ofSum).longValueExact(), all.divide(ofSum).longValueExact());
        }
    }

    private static void drift() {
        SpoonHates x = Due.told("plain;plain;both 0 1 2;pot 9 1;");
        String before = Due.state(x);
        int[] done = {2, 3, 3, 3};
        int[] left = {2, 0, 0, 0};
        for (int n = 1; n <= 4; n++) {
            due.is("drift(7, " + n + ", 0), noon aside", x.drift(7, n, 0), done[n - 1]);
            due.is("drift(7, " + n + ", 1)", x.drift(7, n, 1), left[n - 1]);
        }
        due.is("drift(7, 60, 0)", x.drift(7, 60, 0), 3);
        due.is("drift(7, 61, 0)", x.drift(7, 61, 0), -1);
        due.is("drift(7, 0, 0)", x.drift(7, 0, 0), -1);
        due.is("drift(7, 1, -1)", x.drift(7, 1, -1), -1);
        due.keeps("drift(7, 1, 2)", x, before, x.drift(7, 1, 2), -1);
        SpoonHates y = Due.told("plain;");
        due.is("drift(1, 1, 0), alone", y.drift(1, 1, 0), -2);
        due.is("drift(1, 0, 0), alone", y.drift(1, 0, 0), -1);
        due.is("drift(1, 1, 1) of nobody", new SpoonHates().drift(1, 1, 1), -2);
        SpoonHates z = Due.told("plain;plain;");
        z.stir(0, 1);
        z.hate(0, 1, 5);
        z.hate(1, 0, 5);
        due.is("drift(1, 1, 0), set", z.drift(1, 1, 0), 0);
        due.is("drift(1, 1, 1), set", z.drift(1, 1, 1), 10);
    }

    /**
     * Seed 1: 16838, 5758, 10113, 17515, 31051, 5627, 23010, 7419, as a well-known row of numbers has it;
     * of three: 2 and 1, 0 and 1, 1 and 2 (the same, so the next one), 0 and 0 (so 1).
     */
    private static void driftOfThree() {
        SpoonHates x = Due.told("plain;plain;plain;both 0 1 4;both 0 2 9;both 1 2 6;");
        int[] done = {6, 10, 15, 18};
        for (int n = 1; n <= 4; n++) {
            due.is("drift(1, " + n + ", 0)", x.drift(1, n, 0), done[n - 1]);
            due.is("drift(1, " + n + ", 1)", x.drift(1, n, 1), 38 - 2 * n);
        }
        due.is("rule(3)", x.rule(3), 0);
        // -1: 15929, 27027: 2 and 0; Java's wrap-around holds for a seed below 0 too
        due.is("drift(-1, 1, 0)", x.drift(-1, 1, 0), driftOnce(-1L));
    }

    private static int driftOnce(long seed) {
        int[][] turns = {{0, 4, 9}, {4, 0, 6}, {9, 6, 0}};
        long first = seed * 1103515245L + 12345L;
        long second = first * 1103515245L + 12345L;
        int a = (int) Math.floorMod(Math.floorDiv(first, 65536L), 32768L) % 3;
        int b = (int) Math.floorMod(Math.floorDiv(second, 65536L), 32768L) % 3;
        return turns[a][b == a ? (a + 1) % 3 : b];
    }
}
