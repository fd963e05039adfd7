import java.util.Arrays;

/** Promises 25 to 29, at their edges: each method is a sentence of the document. */
public final class WhoEdgesTest {
    private static final Due due = new Due("WhoEdgesTest");
    private static final String FIVE = "plain;plain;plain;plain;plain;";

    public static void main(String[] args) {
        bestOfNoPairs();
        bestAsksPairsByPlace();
        bestOfFewerThanTwo();
        bestIsMostThenLeastThenFirst();
        bestOfThoseWhoStirNoMore();
        bestOfAllTenPairs();
        fewIsNeedOrMore();
        fewFrom0To4();
        fewOfThoseWhoStirNoMore();
        slipsToNeedOrMore();
        slipsAreTheFewestThenTheLeast();
        slipsOfNone();
        slipsAreNotUsed();
        slipsAre9AtMost();
        mateIsTheFirstOfSeveral();
        mateIsByTurn();
        mateOfOneAlone();
        matchOfEachNumber();
        matchIsTheFirstSuch();
        matchAsksHelpersByPlace();
        due.close();
    }

    private static void best(String name, SpoonHates x, int n, int done, int left, int... row) {
        due.is(name + ": best(" + n + ", 0)", x.best(n, 0), done);
        due.is(name + ": best(" + n + ", 1)", x.best(n, 1), left);
        for (int i = 0; i < 4; i++) {
            due.is(name + ": best(" + n + ", " + (10 + i) + ")", x.best(n, 10 + i), i < row.length ? row[i] : -4);
        }
    }

    private static void few(String name, SpoonHates x, int... row) {
        due.is(name + ": few(0)", x.few(0), row.length);
        for (int i = 0; i < 4; i++) {
            due.is(name + ": few(" + (10 + i) + ")", x.few(10 + i), i < row.length ? row[i] : -4);
        }
    }

    private static void fewByNone(String name, SpoonHates x) {
        due.is(name + ": few(0)", x.few(0), -4);
        for (int i = 0; i < 4; i++) {
            due.is(name + ": few(" + (10 + i) + ")", x.few(10 + i), -4);
        }
        due.is(name + ": few(14), BAD ahead of NONE", x.few(14), -1);
    }

    private static void bestOfNoPairs() {
        SpoonHates x = Due.told("plain;plain;both0 1 5;");
        best("nothing done", x, 0, 0, 10);
        x.stir(0, 1);
        best("5 done", x, 0, 5, 8);
        due.is("best(-1, 0)", x.best(-1, 0), -1);
        due.is("best(5, 0)", x.best(5, 0), -1);
    }

    private static void bestAsksPairsByPlace() {
        SpoonHates x = Due.told("plain;plain;plain;both0 1 9;both1 2 5;");
        best("one", x, 1, 9, 26, 1);
        best("four", x, 4, 30, 20, 1, 1, 1, 1);
        for (int what : new int[] {-1, 2, 9, 14, Integer.MIN_VALUE, Integer.MAX_VALUE}) {
            for (int n = 0; n <= 4; n++) {
                due.is("best(" + n + ", " + what + ")", x.best(n, what), -1);
            }
        }
    }

    private static void bestOfFewerThanTwo() {
        SpoonHates alone = Due.told("brother;");
        SpoonHates nobody = new SpoonHates();
        for (int n = 0; n <= 4; n++) {
            best("alone", alone, n, 0, 0);
            best("nobody", nobody, n, 0, 0);
        }
        due.is("best(5, 10), alone: BAD ahead of NONE", alone.best(5, 10), -1);
        due.is("best(1, 14), alone: BAD ahead of NONE", alone.best(1, 14), -1);
        best("two", Due.told("nun;nun;"), 1, 0, 0, 1);
    }

    private static void bestIsMostThenLeastThenFirst() {
        SpoonHates most = Due.told("plain;plain;plain;both0 1 4;both0 2 5;");
        best("most", most, 1, 5, 16, 2);
        // of 4 and 4 the brother's hatred cools by 2
        SpoonHates least = Due.told("plain;plain;brother;both0 1 4;hate0 2 4;hate2 0 9;");
        best("least left", least, 1, 4, 18, 2);
        SpoonHates leastFirst = Due.told("plain;brother;plain;hate0 1 4;hate1 0 9;both0 2 4;");
        best("least left, others behind it", leastFirst, 1, 4, 18, 1);
        // most goes ahead of least
        SpoonHates ahead = Due.told("plain;plain;brother;both0 1 5;hate0 2 4;hate2 0 9;");
        best("most, not least left", ahead, 1, 5, 21, 1);
        SpoonHates first = Due.told(FIVE + "both1 3 4;both2 3 4;both0 4 4;");
        best("the first", first, 1, 4, 22, 4);
        best("the first two", first, 2, 8, 20, 4, 13);
        best("the first three", first, 3, 12, 18, 4, 13, 23);
        best("the first four", first, 4, 15, 16, 4, 4, 13, 23);
        // no turn at all, but one cools without a turn
        SpoonHates cools = Due.told("plain;plain;plain;hate2 1 5;");
        best("cools without a turn", cools, 1, 0, 4, 12);
    }

    private static void bestOfThoseWhoStirNoMore() {
        SpoonHates x = Due.told("plain;plain;plain;both1 2 5;pot9 2;");
        best("noon behind two", x, 4, 9, 6, 12, 12, 1, 1);
        x.stir(1, 2);
        best("noon behind one", x, 4, 9, 6, 12, 1, 1, 1);
        x.stir(1, 2);
        best("at noon", x, 4, 9, 6, 1, 1, 1, 1);
        best("at noon", x, 1, 9, 6, 1);
        SpoonHates set = Due.told("plain;plain;plain;both1 2 5;");
        set.stir(0, 1);
        best("set", set, 3, 0, 10, 1, 1, 1);
        SpoonHates sets = Due.told("plain;plain;plain;both1 2 1;pot9 12;");
        best("sets behind one", sets, 2, 1, 0, 12, 1);
        best("sets behind one", sets, 4, 1, 0, 12, 1, 1, 1);
    }

    private static void bestOfAllTenPairs() {
        for (int a = 0; a < 5; a++) {
            for (int b = a + 1; b < 5; b++) {
                SpoonHates x = Due.told(FIVE + "both" + a + " " + b + " 9;");
                int pair = 10 * a + b;
                best("pair " + pair, x, 1, 9, 16, pair);
                best("pair " + pair, x, 4, 30, 10, pair, pair, pair, pair);
            }
        }
    }

    private static void fewIsNeedOrMore() {
        // rows of 01 make 9, 17, 24, 30
        int[] done = {0, 9, 17, 24, 30};
        int[] row = {1, 1, 1, 1};
        for (int n = 1; n <= 4; n++) {
            SpoonHates x = Due.told("plain;plain;both0 1 9;");
            x.set(0, done[n]);
            few("just NEED", x, Arrays.copyOf(row, n));
            x.set(0, done[n] - 1);
            few("1 below", x, Arrays.copyOf(row, n));
            x.set(0, done[n] + 1);
            if (n < 4) {
                few("1 above", x, Arrays.copyOf(row, n + 1));
            } else {
                fewByNone("1 above all", x);
            }
        }
    }

    private static void fewFrom0To4() {
        SpoonHates x = Due.told("plain;plain;both0 1 9;");
        x.stir(0, 1);
        x.set(0, 9);
        few("none is wanted", x);
        x.set(0, 10);
        few("one", x, 1);
        x.set(0, 9 + 8 + 7 + 6 + 5);
        few("four", x, 1, 1, 1, 1);
        x.set(0, 9 + 8 + 7 + 6 + 5 + 1);
        fewByNone("five would be wanted", x);
        for (int what : new int[] {-1, 1, 2, 9, 14, Integer.MIN_VALUE, Integer.MAX_VALUE}) {
            due.is("few(" + what + ")", x.few(what), -1);
        }
        fewByNone("nobody", new SpoonHates());
        fewByNone("alone", Due.told("nun;pot1 1;"));
        SpoonHates first = Due.told(FIVE + "both0 4 3;both1 3 3;both2 3 5;pot3 8;");
        few("the first, not the most", first, 4);
        first.set(0, 6);
        few("the first two", first, 4, 13);
        first.set(0, 9);
        few("9 of two", first, 23, 23);
        first.set(0, 10);
        few("10 of three", first, 4, 4, 23);
    }

    private static void fewOfThoseWhoStirNoMore() {
        SpoonHates x = Due.told("plain;plain;both0 1 9;pot17 2;");
        few("at noon", x, 1, 1);
        x.set(0, 18);
        fewByNone("noon is too early", x);
        x.stir(0, 1);
        x.stir(0, 1);
        fewByNone("at noon", x);
        x.set(0, 17);
        few("done at noon", x);
        SpoonHates set = Due.told("plain;plain;plain;both0 1 9;pot1 9;");
        set.stir(1, 2);
        fewByNone("set", set);
    }

    private static void slips(String name, SpoonHates x, int many, int bits) {
        due.is(name + ": slips(0)", x.slips(0), many);
        due.is(name + ": slips(1)", x.slips(1), bits);
        due.is(name + ": slips(2)", x.slips(2), -1);
        due.is(name + ": slips(-1)", x.slips(-1), -1);
        due.is(name + ": nothing is used", x.rule(7), 0);
    }

    private static void slipsToNeedOrMore() {
        SpoonHates x = Due.told("plain;plain;hate1 0 9;hate0 1 2;slip0 1 3;plan0 1;");
        int[] bits = {0, 0, 0, 1, 1, 1};
        for (int need = 1; need <= 5; need++) {
            x.set(0, need);
            slips("NEED " + need, x, bits[need], bits[need]);
        }
        x.set(0, 6);
        slips("NEED 6", x, -4, -4);
    }

    private static void slipsAreTheFewestThenTheLeast() {
        String text = "plain;plain;hate1 0 9;slip0 1 1;slip0 1 2;slip0 1 2;slip0 1 3;slip0 1 3;slip0 1 5;plan0 1;";
        SpoonHates x = Due.told(text);
        // 3 and 3 go ahead of 5 and 1 by numbers; so do, at 9, 2 and 2 ahead of 1 and 3
        int[] bits = {0, 1, 2, 8, 32, 32, 24, 34, 40};
        for (int need = 1; need <= 8; need++) {
            x.set(0, need);
            slips("NEED " + need, x, Integer.bitCount(bits[need]), bits[need]);
        }
        x.set(0, 9);
        slips("NEED 9, three wanted", x, 3, 32 + 4 + 2);
        SpoonHates all = Due.told("plain;plain;hate1 0 9;" + "slip0 1 1;".repeat(6) + "plan0 1;pot6 9;");
        slips("all six", all, 6, 63);
        all.set(0, 5);
        slips("five of six", all, 5, 31);
        all.set(0, 1);
        slips("one of six", all, 1, 1);
        all.set(0, 7);
        slips("seven of six", all, -4, -4);
    }

    private static void slipsOfNone() {
        SpoonHates x = Due.told("plain;plain;both0 1 5;plan0 1;pot5 8;");
        slips("without slips, just enough", x, 0, 0);
        x.set(0, 6);
        slips("without slips, too little", x, -4, -4);
        SpoonHates noPlan = Due.told("plain;plain;both0 1 5;slip0 1 4;slip1 0 4;pot5 1;");
        slips("without a plan", noPlan, -4, -4);
        noPlan.stir(0, 1);
        slips("without a plan, done", noPlan, 0, 0);
        slips("nobody", new SpoonHates(), -4, -4);
        SpoonHates noon = Due.told("plain;plain;both0 1 5;slip0 1 4;slip1 0 4;plan0 1;pot6 1;");
        noon.stir(0, 1);
        slips("at noon", noon, -4, -4);
        SpoonHates set = Due.told("plain;plain;slip0 1 4;slip1 0 4;plan0 1;pot1 9;");
        slips("two that keep it from setting", set, 2, 3);
        set.stir(0, 1);
        slips("set", set, -4, -4);
    }

    private static void slipsAreNotUsed() {
        for (int used = 0; used < 8; used++) {
            SpoonHates x = Due.told("plain;plain;hate1 0 9;slip0 1 4;slip0 1 4;slip0 1 4;plan0 1;pot4 9;");
            int first = 0;
            for (int i = 2; i >= 0; i--) {
                if ((used >> i & 1) == 1) {
                    x.use(i);
                } else {
                    first = 1 << i;
                }
            }
            x.hate(0, 1, 0);
            due.is("slips(0), used " + used, x.slips(0), used == 7 ? -4 : 1);
            due.is("slips(1), used " + used, x.slips(1), used == 7 ? -4 : first);
            due.is("rule(7)", x.rule(7), used);
        }
    }

    private static void slipsAre9AtMost() {
        // 8 and 9 are 9, not 17: two rounds make 9 and 8, the nun's 3 and 3
        SpoonHates x = Due.told("plain;plain;hate1 0 9;hate0 1 8;slip0 1 9;slip0 1 9;plan0 1;plan0 1;pot17 8;");
        slips("9 at most", x, 1, 1);
        x.set(0, 18);
        slips("9 at most, too little", x, -4, -4);
    }

    private static void mateIsTheFirstOfSeveral() {
        for (int a = 0; a < 5; a++) {
            SpoonHates x = Due.told(FIVE);
            due.is("mate(" + a + ") of no turns", x.mate(a), a == 0 ? 1 : 0);
            for (int b = 4; b >= 0; b--) {
                if (a != b) {
                    x.hate(a, b, 5);
                    x.hate(b, a, 5);
                    due.is("mate(" + a + ") of equal ones from " + b + " on", x.mate(a), b);
                }
            }
            int last = a == 4 ? 3 : 4;
            x.hate(a, last, 6);
            due.is("mate(" + a + "): one alone hates more", x.mate(a), a == 0 ? 1 : 0);
            x.hate(last, a, 6);
            due.is("mate(" + a + "): the last", x.mate(a), last);
            due.is("mate(5)", x.mate(5), -1);
            due.is("mate(-1)", x.mate(-1), -1);
        }
    }

    /** Whom one hates most is not with whom it turns most. */
    private static void mateIsByTurn() {
        SpoonHates x = Due.told("plain;plain;plain;nun;hate0 1 9;hate1 0 2;both0 2 3;hate0 3 9;hate3 0 1;");
        due.is("mate(0): 9 and 2, 3 and 3, 9 and 1", x.mate(0), 2);
        x.hate(3, 0, 9);
        due.is("mate(0): the nun feels no more than 3", x.mate(0), 2);
        x.hate(1, 0, 4);
        due.is("mate(0): 9 and 4", x.mate(0), 1);
        x.teach(1, 1);
        due.is("mate(0): the sullen one feels 3 of 4", x.mate(0), 1);
        x.teach(1, 0);
        x.teach(2, 3);
        due.is("mate(0): 9 and 4, 3 and 6", x.mate(0), 1);
        x.teach(0, 3);
        due.is("mate(0): 18 and 4, 6 and 6", x.mate(0), 2);
    }

    private static void mateOfOneAlone() {
        SpoonHates alone = Due.told("nun;");
        due.is("mate(0), alone", alone.mate(0), -4);
        due.is("mate(1), alone", alone.mate(1), -1);
        due.is("mate(0) of nobody", new SpoonHates().mate(0), -1);
        SpoonHates two = Due.told("nun;nun;");
        due.is("mate(0) of two", two.mate(0), 1);
        due.is("mate(1) of two", two.mate(1), 0);
    }

    private static void match(String name, SpoonHates x, int sum, int... mates) {
        due.is(name + ": match(0)", x.match(0), sum);
        for (int a = 0; a < 5; a++) {
            due.is(name + ": match(" + (10 + a) + ")", x.match(10 + a), a < mates.length ? mates[a] : -1);
        }
    }

    private static void matchOfEachNumber() {
        match("nobody", new SpoonHates(), 0);
        match("alone", Due.told("brother;"), 0, -4);
        match("two", Due.told("plain;plain;both0 1 9;"), 9, 1, 0);
        match("three", Due.told("plain;plain;plain;both0 1 3;both1 2 4;both0 2 4;"), 4, -4, 2, 1);
        match("four", Due.told("plain;plain;plain;plain;both0 3 1;both1 2 1;"), 2, 3, 2, 1, 0);
        match("five", Due.told(FIVE + "both0 4 1;both1 3 1;"), 2, 4, 3, -4, 1, 0);
        match("brothers", Due.told("brother;brother;brother;brother;both0 1 9;both2 3 9;"), 36, 1, 0, 3, 2);
    }

    private static void matchIsTheFirstSuch() {
        match("none turns", Due.told(FIVE), 0, -4, -4, -4, -4, -4);
        SpoonHates all = Due.told(FIVE);
        for (int pair = 0; pair < 25; pair++) {
            all.hate(pair / 5, pair % 5, 5);
        }
        match("all alike: the first is left out", all, 10, -4, 2, 1, 4, 3);
        all.hate(0, 1, 6);
        all.hate(1, 0, 6);
        match("the first two more", all, 11, 1, 0, -4, 4, 3);
        SpoonHates four = Due.told("plain;plain;plain;plain;");
        for (int pair = 0; pair < 16; pair++) {
            four.hate(pair / 4, pair % 4, 5);
        }
        match("four alike: with the first other one", four, 10, 1, 0, 3, 2);
        SpoonHates zero = Due.told("plain;plain;plain;plain;both0 1 5;");
        match("those without a turn are with nobody", zero, 5, 1, 0, -4, -4);
        // 0 with 1 and 2 with 3, or 0 with 2 and 1 with 3
        SpoonHates equal = Due.told("plain;plain;plain;plain;both0 1 4;both2 3 4;both0 2 4;both1 3 4;");
        match("of equal sums 0 with 1", equal, 8, 1, 0, 3, 2);
        equal.hate(0, 1, 3);
        match("1 less of 0 with 1", equal, 8, 2, 3, 0, 1);
        SpoonHates one = Due.told("plain;plain;plain;plain;both0 1 4;both2 3 0;both0 2 4;both1 2 4;");
        match("one pair alone: the first with nobody", one, 4, -4, 2, 1, -4);
    }

    private static void matchAsksHelpersByPlace() {
        SpoonHates x = Due.told(FIVE + "both0 1 5;");
        for (int what : new int[] {-1, 1, 2, 9, 15, Integer.MIN_VALUE, Integer.MIN_VALUE + 9, Integer.MAX_VALUE}) {
            due.is("match(" + what + ")", x.match(what), -1);
        }
    }
}
