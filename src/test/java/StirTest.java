/** Promises 19 to 24: stirring. */
public final class StirTest {
    private static final Due due = new Due("StirTest");

    public static void main(String[] args) {
        turn();
        stir();
        stirSullenAndBrother();
        stirRefused();
        runs();
        ahead();
        lasts();
        three();
        due.close();
    }

    private static void turn() {
        SpoonHates x = Due.told("plain;sullen;nun;brother;both 0 1 6;hate 0 2 5;hate 2 0 7;both 1 3 4;both 0 3 1;");
        due.is("turn(0, 1): 6 and 5", x.turn(0, 1), 5);
        due.is("turn(1, 0)", x.turn(1, 0), 5);
        due.is("turn(0, 2): 5 and 3", x.turn(0, 2), 3);
        due.is("turn(3, 1): 8 and 3", x.turn(3, 1), 3);
        due.is("turn(0, 3): 1 and 2", x.turn(0, 3), 1);
        due.is("turn(2, 3)", x.turn(2, 3), 0);
        due.is("turn(2, 2)", x.turn(2, 2), -1);
        due.is("turn(-1, 2)", x.turn(-1, 2), -1);
        due.is("turn(4, 2)", x.turn(4, 2), -1);
        due.is("turn(2, 4)", x.turn(2, 4), -1);
    }

    private static void stir() {
        SpoonHates x = Due.told("plain;nun;hate 0 1 5;hate 1 0 9;pot 30 9;");
        // 5 and 9, 4 and 8, 3 and 7, 2 and 6, 1 and 5; then the nun alone hates on
        int[] done = {3, 6, 9, 11, 12, 12, 12, 12, 12};
        for (int i = 0; i < done.length; i++) {
            due.is("stir(0, 1), the " + i + "th", x.stir(0, 1), done[i]);
            due.is("rule(3)", x.rule(3), i + 1);
            due.is("rule(5)", x.rule(5), 0);
        }
        due.is("stir(0, 1) at noon", x.stir(0, 1), -2);
        due.is("count(0)", x.count(0), 0);
        x.set(1, 12);
        due.is("stir(1, 0): neither hates", x.stir(1, 0), 12);
        due.is("rule(5): it sets", x.rule(5), 1);
        due.is("rule(3)", x.rule(3), 10);
        x.hate(0, 1, 9);
        x.hate(1, 0, 9);
        due.is("stir(0, 1): it is set", x.stir(0, 1), -2);
        due.is("turn(0, 1)", x.turn(0, 1), 3);
    }

    private static void stirSullenAndBrother() {
        SpoonHates x = Due.told("sullen;brother;both 0 1 9;pot 99 12;");
        int[] done = {8, 16, 23, 29, 31, 31};
        int[] sullen = {9, 8, 8, 7, 7, 6};
        int[] brother = {7, 5, 3, 1, 0, 0};
        for (int i = 0; i < done.length; i++) {
            due.is("stir(1, 0), the " + i + "th", x.stir(1, 0), done[i]);
            due.is("hatred(0, 1, 0)", x.hatred(0, 1, 0), sullen[i]);
            due.is("hatred(1, 0, 0)", x.hatred(1, 0, 0), brother[i]);
        }
        SpoonHates y = Due.told("sullen;sullen;plain;both 0 1 1;both 0 2 5;");
        due.is("stir(0, 1): they feel nothing, yet hate", y.stir(0, 1), 0);
        due.is("rule(5)", y.rule(5), 0);
        due.is("count(0): none cools at step 0", y.count(0), 12);
        due.is("stir(0, 1)", y.stir(0, 1), 0);
        due.is("count(0): both cool at step 1", y.count(0), 10);
        due.is("rule(5)", y.rule(5), 0);
        due.is("stir(0, 1)", y.stir(0, 1), 0);
        due.is("rule(5)", y.rule(5), 1);
        SpoonHates z = Due.told("plain;plain;plain;both 0 1 3;both 0 2 4;both 1 2 5;");
        due.is("stir(2, 1)", z.stir(2, 1), 5);
        due.is("hatred(1, 2, 0)", z.hatred(1, 2, 0), 4);
        due.is("hatred(2, 1, 0)", z.hatred(2, 1, 0), 4);
        due.is("count(0): no other's cools", z.count(0), 22);
    }

    private static void stirRefused() {
        SpoonHates x = Due.told("plain;plain;both 0 1 9;pot 1 1;");
        String before = Due.state(x);
        due.is("stir(0, 0)", x.stir(0, 0), -1);
        due.is("stir(-1, 0)", x.stir(-1, 0), -1);
        due.is("stir(2, 0)", x.stir(2, 0), -1);
        due.keeps("stir(0, 2)", x, before, x.stir(0, 2), -1);
        due.is("stir(0, 1)", x.stir(0, 1), 9);
        due.is("stir(0, 1)", x.stir(0, 1), -2);
        due.is("stir(0, 2): BAD ahead of STATE", x.stir(0, 2), -1);
        due.is("rule(3)", x.rule(3), 1);
        due.is("rule(4)", x.rule(4), 9);
    }

    private static void runs(String name, SpoonHates x, int... want) {
        for (int what = 0; what < 5; what++) {
            due.is(name + ": runs(" + what + ")", x.runs(what), want[what]);
        }
    }

    private static void runs() {
        SpoonHates x = Due.told("plain;plain;nun;both 0 1 2;pot 5 5;plan 0 1;plan 0 1;plan 0 1;plan 0 2;");
        String before = Due.state(x);
        runs("it sets", x, 3, 3, 1, 0, 3);
        due.keeps("runs(5)", x, before, x.runs(5), -1);
        due.is("runs(-1)", x.runs(-1), -1);
        x.set(1, 3);
        runs("set and noon", x, 3, 3, 1, 0, 3);
        x.set(1, 2);
        runs("noon", x, 3, 2, 0, 0, 2);
        x.stir(0, 1);
        runs("a step is done", x, 3, 2, 0, 0, 1);
        x.stir(0, 1);
        runs("it is noon", x, 3, 2, 0, 0, 0);
        x.set(1, 12);
        x.hate(0, 1, 9);
        x.hate(1, 0, 9);
        runs("from step 2 on", x, 3 + 9 + 8 + 7, 6, 1, 12, -4);
        x.cut(3);
        runs("the first three", x, 27, 5, 0, 12, -4);
        x.cut(0);
        runs("no plan", x, 3, 2, 0, 18, -4);
        SpoonHates y = new SpoonHates();
        runs("nothing", y, 0, 0, 0, 0, -4);
    }

    private static void ahead() {
        SpoonHates x = Due.told("sullen;brother;both 0 1 9;pot 99 12;");
        int[] done = {0, 8, 16, 23, 29, 31, 31, 31, 31, 31, 31, 31, 31};
        for (int n = 0; n <= 12; n++) {
            due.is("ahead(0, 1, " + n + ")", x.ahead(0, 1, n), done[n]);
        }
        due.is("ahead(0, 1, 13)", x.ahead(0, 1, 13), -1);
        due.is("ahead(0, 1, -1)", x.ahead(0, 1, -1), -1);
        due.is("ahead(1, 1, 1)", x.ahead(1, 1, 1), -1);
        due.is("ahead(2, 1, 1)", x.ahead(2, 1, 1), -1);
        due.is("ahead(1, -1, 1)", x.ahead(1, -1, 1), -1);
        due.is("rule(3)", x.rule(3), 0);
        due.is("count(0)", x.count(0), 18);
        x.set(1, 2);
        due.is("ahead(1, 0, 12) till noon", x.ahead(1, 0, 12), 16);
        x.stir(0, 1);
        due.is("ahead(1, 0, 1)", x.ahead(1, 0, 1), 16);
        due.is("ahead(1, 0, 0)", x.ahead(1, 0, 0), 8);
        SpoonHates y = Due.told("plain;plain;both 0 1 0;");
        y.stir(0, 1);
        y.hate(0, 1, 5);
        y.hate(1, 0, 5);
        due.is("ahead(0, 1, 3), set", y.ahead(0, 1, 3), 0);
    }

    private static void lasts() {
        SpoonHates x = Due.told("sullen;brother;sullen;plain;nun;both 0 1 9;both 0 2 9;both 3 4 9;hate 3 1 2;");
        due.is("lasts(0, 1)", x.lasts(0, 1), 5);
        due.is("lasts(2, 0) from step 0", x.lasts(2, 0), 16);
        due.is("lasts(3, 4)", x.lasts(3, 4), 9);
        due.is("lasts(3, 1): one alone hates", x.lasts(3, 1), 0);
        due.is("lasts(1, 4)", x.lasts(1, 4), 0);
        x.set(1, 1);
        due.is("lasts(0, 1), noon aside", x.lasts(0, 1), 5);
        x.stir(3, 4);
        due.is("lasts(2, 0) from step 1", x.lasts(2, 0), 15);
        due.is("lasts(0, 0)", x.lasts(0, 0), -1);
        due.is("lasts(0, 5)", x.lasts(0, 5), -1);
        due.is("lasts(-1, 0)", x.lasts(-1, 0), -1);
        due.is("rule(3)", x.rule(3), 1);
        due.is("count(0)", x.count(0), 18 + 18 + 16 + 2);
        x.set(1, 2);
        x.stir(1, 4);
        due.is("rule(5)", x.rule(5), 1);
        due.is("lasts(2, 0), set", x.lasts(2, 0), 0);
        due.is("lasts(2, 2), set", x.lasts(2, 2), -1);
    }

    private static void three() {
        SpoonHates x = Due.told("plain;sullen;nun;brother;hate 0 1 6;hate 1 2 5;hate 2 0 9;hate 0 2 5;hate 2 1 2;hate 1 0 9;");
        // 6, 4, 3 one way; 5, 2, 8 the other
        due.is("three(0, 1, 2)", x.three(0, 1, 2), 3);
        due.is("three(1, 2, 0)", x.three(1, 2, 0), 3);
        due.is("three(0, 2, 1)", x.three(0, 2, 1), 3);
        x.hate(2, 0, 1);
        due.is("three(0, 1, 2), the other way", x.three(0, 1, 2), 2);
        x.hate(2, 1, 1);
        x.hate(0, 2, 0);
        due.is("three(0, 1, 2)", x.three(0, 1, 2), 1);
        x.hate(0, 1, 0);
        due.is("three(0, 1, 2)", x.three(0, 1, 2), 0);
        due.is("three(0, 1, 3)", x.three(0, 1, 3), 0);
        due.is("three(0, 0, 1)", x.three(0, 0, 1), -1);
        due.is("three(0, 1, 0)", x.three(0, 1, 0), -1);
        due.is("three(1, 0, 0)", x.three(1, 0, 0), -1);
        due.is("three(0, 1, 4)", x.three(0, 1, 4), -1);
        due.is("three(0, 4, 1)", x.three(0, 4, 1), -1);
        due.is("three(4, 0, 1)", x.three(4, 0, 1), -1);
        due.is("three(0, -1, 1)", x.three(0, -1, 1), -1);
    }
}
