/** Promises 30 to 33: what it was. */
public final class WasTest {
    private static final Due due = new Due("WasTest");

    public static void main(String[] args) {
        see();
        fitsPlain();
        fitsByKinds();
        fitsByStep();
        fitsWhenSet();
        forgave();
        due.close();
    }

    private static void see() {
        SpoonHates x = new SpoonHates();
        due.is("see(-1, 0)", x.see(-1, 0), -1);
        due.is("see(10, 0)", x.see(10, 0), -1);
        due.is("see(0, -1)", x.see(0, -1), -1);
        due.is("see(0, 19)", x.see(0, 19), -1);
        due.is("see(0, 18)", x.see(0, 18), 1);
        due.is("see(9, 0)", x.see(9, 0), 2);
        due.is("forget(3)", x.forget(3), -1);
        due.is("forget(-1)", x.forget(-1), -1);
        due.is("forget(2)", x.forget(2), 2);
        for (int i = 3; i <= 6; i++) {
            due.is("see(1, 1)", x.see(1, 1), i);
        }
        due.is("see(1, 1), the 7th", x.see(1, 1), -3);
        due.is("see(10, 1), the 7th", x.see(10, 1), -1);
        due.is("count(1)", x.count(1), 6);
        due.is("forget(1)", x.forget(1), 6);
        due.is("forget(2)", x.forget(2), -1);
        due.is("count(1)", x.count(1), 1);
        due.is("forget(0)", x.forget(0), 1);
        due.is("forget(0)", x.forget(0), 0);
    }

    private static void fits(String name, SpoonHates x, int a, int b, int... want) {
        for (int what = 0; what < 3; what++) {
            due.is(name + ": fits(" + a + ", " + b + ", " + what + ")", x.fits(a, b, what), want[what]);
        }
    }

    private static void fitsPlain() {
        SpoonHates x = Due.told("plain;plain;hate 0 1 6;");
        String before = Due.state(x);
        fits("nothing seen", x, 0, 1, 100, 0, 99);
        due.keeps("fits(0, 1, 3)", x, before, x.fits(0, 1, 3), -1);
        due.is("fits(0, 1, -1)", x.fits(0, 1, -1), -1);
        due.is("fits(1, 1, 0)", x.fits(1, 1, 0), -1);
        due.is("fits(2, 1, 0)", x.fits(2, 1, 0), -1);
        due.is("fits(0, -1, 0)", x.fits(0, -1, 0), -1);
        x.see(0, 3);
        fits("3 at once", x, 0, 1, 13, 33, 93);
        x.see(2, 1);
        fits("1 behind 2", x, 0, 1, 13, 33, 93);
        x.see(4, 1);
        fits("1 behind 4", x, 0, 1, 0, -4, -4);
        x.forget(0);
        x.see(9, 0);
        fits("0 behind 9", x, 0, 1, 100, 0, 99);
        x.see(8, 1);
        fits("1 behind 8", x, 0, 1, 1, 99, 99);
        x.forget(0);
        x.see(9, 1);
        fits("1 behind 9", x, 0, 1, 0, -4, -4);
    }

    private static void fitsByKinds() {
        SpoonHates x = Due.told("plain;nun;sullen;brother;");
        x.see(0, 3);
        fits("plain and nun", x, 0, 1, 49, 33, 99);
        x.see(6, 3);
        fits("plain and nun, 3 behind 6", x, 0, 1, 1, 99, 99);
        x.forget(0);
        x.see(0, 4);
        fits("sullen and brother", x, 2, 3, 12, 52, 92);
        fits("brother and sullen", x, 3, 2, 12, 25, 95);
        fits("nun and brother", x, 1, 3, 0, -4, -4);
    }

    private static void fitsByStep() {
        SpoonHates x = Due.told("sullen;sullen;plain;plain;both 2 3 9;pot 9 1;");
        x.see(0, 3);
        x.see(1, 3);
        fits("from step 0", x, 0, 1, 11, 44, 94);
        due.is("stir(2, 3)", x.stir(2, 3), 9);
        fits("from step 1, noon aside", x, 0, 1, 0, -4, -4);
        x.forget(1);
        x.see(1, 2);
        x.see(2, 2);
        fits("from step 1", x, 0, 1, 11, 44, 94);
    }

    private static void fitsWhenSet() {
        SpoonHates x = Due.told("plain;plain;");
        x.see(0, 3);
        x.see(5, 3);
        fits("not set", x, 0, 1, 0, -4, -4);
        x.stir(0, 1);
        due.is("rule(5)", x.rule(5), 1);
        fits("set: they stir no more", x, 0, 1, 13, 33, 93);
    }

    private static void forgave() {
        SpoonHates x = Due.told("plain;plain;plain;both 0 1 5;both 1 2 3;plan 0 1;plan 1 2;");
        String before = Due.state(x);
        due.is("forgave(3)", x.forgave(3), 1);
        due.is("forgave(0)", x.forgave(0), 2);
        due.is("forgave(5)", x.forgave(5), 4);
        due.is("forgave(8)", x.forgave(8), 0);
        due.is("forgave(999)", x.forgave(999), 0);
        due.is("forgave(1000)", x.forgave(1000), -1);
        due.keeps("forgave(-1)", x, before, x.forgave(-1), -1);
        x.stir(0, 1);
        due.is("forgave(8): 5 are done", x.forgave(8), 1);
        due.is("forgave(9)", x.forgave(9), 4);
        due.is("forgave(5)", x.forgave(5), 2);
        x.cut(0);
        due.is("forgave(5) without a plan", x.forgave(5), 7);
        due.is("forgave(0) of nobody", new SpoonHates().forgave(0), 0);
    }
}
