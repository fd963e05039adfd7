/** Promises 25 to 29: who with whom. */
public final class WhoTest {
    private static final Due due = new Due("WhoTest");

    public static void main(String[] args) {
        best();
        bestOfEqual();
        bestAtTheEdges();
        few();
        slips();
        mate();
        match();
        due.close();
    }

    private static void best(SpoonHates x, int n, int done, int left, int... row) {
        due.is("best(" + n + ", 0)", x.best(n, 0), done);
        due.is("best(" + n + ", 1)", x.best(n, 1), left);
        for (int i = 0; i < 4; i++) {
            due.is("best(" + n + ", " + (10 + i) + ")", x.best(n, 10 + i), i < row.length ? row[i] : -4);
        }
    }

    private static void best() {
        SpoonHates x = Due.told("plain;plain;plain;both 0 1 5;both 0 2 4;both 1 2 3;");
        String before = Due.state(x);
        best(x, 0, 0, 24);
        best(x, 1, 5, 22, 1);
        best(x, 2, 9, 20, 1, 1);
        best(x, 3, 13, 18, 1, 1, 2);
        best(x, 4, 16, 16, 1, 1, 1, 2);
        due.keeps("best(5, 0)", x, before, x.best(5, 0), -1);
        due.is("best(-1, 0)", x.best(-1, 0), -1);
        due.is("best(1, -1)", x.best(1, -1), -1);
        due.is("best(1, 2)", x.best(1, 2), -1);
        due.is("best(1, 9)", x.best(1, 9), -1);
        due.is("best(1, 14)", x.best(1, 14), -1);
        SpoonHates y = Due.told("plain;plain;plain;plain;plain;both 3 4 9;both 2 3 8;");
        best(y, 4, 9 + 8 + 8 + 7, 34 - 8, 23, 23, 34, 34);
        SpoonHates z = Due.told("plain;plain;plain;plain;plain;both 3 4 9;");
        best(z, 1, 9, 16, 34);
        best(z, 4, 9 + 8 + 7 + 6, 10, 34, 34, 34, 34);
        z.set(0, 30);
        few(z, 34, 34, 34, 34);
        z.set(0, 31);
        due.is("few(0) of five, by none", z.few(0), -4);
    }

    private static void bestOfEqual() {
        SpoonHates x = Due.told("plain;plain;brother;both 0 1 4;hate 0 2 4;hate 2 0 9;");
        best(x, 1, 4, 18, 2);
        SpoonHates y = Due.told("plain;plain;plain;both 0 1 4;both 0 2 5;");
        best(y, 1, 5, 16, 2);
        // with one step only the row's rest is the first by numbers
        y.set(1, 1);
        best(y, 4, 5, 16, 2, 1, 1, 1);
    }

    private static void bestAtTheEdges() {
        SpoonHates x = new SpoonHates();
        best(x, 0, 0, 0);
        best(x, 4, 0, 0);
        Due.feedAll(x, "nun;");
        x.text();
        best(x, 2, 0, 0);
        due.is("best(5, 10)", x.best(5, 10), -1);
        SpoonHates y = Due.told("nun;plain;plain;both 0 2 2;pot 9 2;");
        due.is("stir(0, 2)", y.stir(0, 2), 2);
        best(y, 2, 3, 0, 2, 1);
        y.stir(0, 1);
        due.is("rule(5)", y.rule(5), 1);
        best(y, 3, 2, 2, 1, 1, 1);
    }

    private static void few(SpoonHates x, int... row) {
        due.is("few(0)", x.few(0), row.length);
        for (int i = 0; i < 4; i++) {
            due.is("few(" + (10 + i) + ")", x.few(10 + i), i < row.length ? row[i] : -4);
        }
    }

    private static void few() {
        SpoonHates x = Due.told("plain;plain;plain;both 0 1 4;both 0 2 5;both 1 2 3;pot 4 8;");
        few(x, 1);
        x.set(0, 5);
        few(x, 2);
        x.set(0, 6);
        few(x, 1, 1);
        x.set(0, 8);
        few(x, 1, 2);
        x.set(0, 10);
        few(x, 1, 1, 2);
        x.set(0, 16);
        few(x, 1, 1, 2, 2);
        x.set(0, 17);
        for (int what : new int[] {0, 10, 13}) {
            due.is("few(" + what + ") by none", x.few(what), -4);
        }
        due.is("few(1)", x.few(1), -1);
        due.is("few(-1)", x.few(-1), -1);
        due.is("few(9)", x.few(9), -1);
        due.is("few(14)", x.few(14), -1);
        x.stir(0, 2);
        due.is("rule(4)", x.rule(4), 5);
        x.set(0, 5);
        few(x);
        x.set(0, 6);
        few(x, 1);
        x.set(1, 1);
        due.is("few(0) at noon", x.few(0), -4);
        x.set(0, 4);
        due.is("few(0) at noon, done", x.few(0), 0);
        SpoonHates y = new SpoonHates();
        due.is("few(0) of nobody", y.few(0), -4);
        due.is("few(10) of nobody", y.few(10), -4);
    }

    private static void slips() {
        SpoonHates x = Due.told("plain;plain;both 0 1 1;pot 9 8;slip 0 1 4;slip 1 0 4;slip 0 1 8;plan 0 1;plan 0 1;");
        String before = Due.state(x);
        due.is("slips(0)", x.slips(0), 2);
        due.is("slips(1)", x.slips(1), 3);
        due.keeps("slips(2)", x, before, x.slips(2), -1);
        due.is("slips(-1)", x.slips(-1), -1);
        x.set(0, 1);
        due.is("slips(0): none is wanted", x.slips(0), 0);
        due.is("slips(1)", x.slips(1), 0);
        x.set(0, 10);
        due.is("slips(0) by none", x.slips(0), -4);
        due.is("slips(1) by none", x.slips(1), -4);
        x.set(0, 9);
        due.is("use(0)", x.use(0), 5);
        due.is("slips(0)", x.slips(0), 1);
        due.is("slips(1)", x.slips(1), 2);
        x.hate(0, 1, 1);
        due.is("slips(0): the used one does not come again", x.slips(0), 2);
        due.is("slips(1)", x.slips(1), 6);
        x.use(1);
        due.is("slips(1)", x.slips(1), 4);
        x.use(2);
        due.is("slips(0): it is so already", x.slips(0), 0);
        x.cut(1);
        due.is("slips(0)", x.slips(0), -4);
        SpoonHates y = new SpoonHates();
        due.is("slips(0) of nobody", y.slips(0), -4);
        SpoonHates z = Due.told("nun;nun;pot 3 8;slip 0 1 1;slip 1 0 1;slip 0 1 1;slip 1 0 1;slip 0 1 2;slip 1 0 2;plan 0 1;plan 1 0;");
        // twos and ones: 2 and 2 make 2 and 1
        due.is("slips(0)", z.slips(0), 2);
        due.is("slips(1)", z.slips(1), 48);
        // all six make 4 and 4, which a nun feels as 3, and once more as 3
        z.set(0, 6);
        due.is("slips(0): all", z.slips(0), 6);
        due.is("slips(1): all", z.slips(1), 63);
        z.set(0, 5);
        due.is("slips(0): all but a one each", z.slips(0), 4);
        due.is("slips(1)", z.slips(1), 51);
    }

    private static void mate() {
        SpoonHates x = Due.told("plain;plain;nun;brother;both 0 1 3;both 0 2 9;both 0 3 2;both 1 3 7;");
        due.is("mate(0): 3, 3 and 2", x.mate(0), 1);
        due.is("mate(1): 3, 0 and 7", x.mate(1), 3);
        due.is("mate(2)", x.mate(2), 0);
        due.is("mate(3): 2, 7 and 0", x.mate(3), 1);
        due.is("mate(4)", x.mate(4), -1);
        due.is("mate(-1)", x.mate(-1), -1);
        SpoonHates y = Due.told("plain;nun;");
        due.is("mate(0): without a turn", y.mate(0), 1);
        due.is("mate(1)", y.mate(1), 0);
        SpoonHates z = Due.told("plain;");
        due.is("mate(0), alone", z.mate(0), -4);
        due.is("mate(1), alone", z.mate(1), -1);
    }

    private static void match(SpoonHates x, int sum, int... mates) {
        due.is("match(0)", x.match(0), sum);
        for (int a = 0; a < mates.length; a++) {
            due.is("match(" + (10 + a) + ")", x.match(10 + a), mates[a]);
        }
        due.is("match(" + (10 + mates.length) + ")", x.match(10 + mates.length), -1);
    }

    private static void match() {
        match(new SpoonHates(), 0);
        match(Due.told("nun;"), 0, -4);
        match(Due.told("nun;nun;"), 0, -4, -4);
        match(Due.told("nun;nun;both 1 0 1;"), 1, 1, 0);
        match(Due.told("plain;plain;plain;both 0 1 5;both 0 2 5;both 1 2 5;"), 5, -4, 2, 1);
        match(Due.told("plain;plain;plain;plain;both 0 1 3;both 2 3 2;both 0 2 3;both 1 3 2;"), 5, 1, 0, 3, 2);
        match(Due.told("plain;plain;plain;plain;both 0 1 9;both 0 2 5;both 1 3 5;"), 10, 2, 3, 0, 1);
        match(Due.told("plain;plain;plain;plain;both 0 1 3;"), 3, 1, 0, -4, -4);
        match(Due.told("plain;plain;plain;plain;plain;both 0 4 5;both 1 3 4;both 2 3 3;both 1 2 2;both 0 1 6;"),
                9, 1, 0, 3, 2, -4);
        match(Due.told("plain;brother;plain;plain;plain;both 0 4 5;hate 1 3 4;hate 3 1 9;both 2 3 3;both 0 1 2;"),
                13, 4, 3, -4, 1, 0);
        SpoonHates x = Due.told("nun;nun;");
        due.is("match(-1)", x.match(-1), -1);
        due.is("match(1)", x.match(1), -1);
        due.is("match(9)", x.match(9), -1);
        due.is("match(15)", x.match(15), -1);
        due.is("match(least)", x.match(Integer.MIN_VALUE), -1);
        due.is("match(greatest)", x.match(Integer.MAX_VALUE), -1);
    }
}
