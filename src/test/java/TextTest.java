/** Promises 1 to 10: a new object, the tape, the text and what it tells. */
public final class TextTest {
    private static final Due due = new Due("TextTest");

    public static void main(String[] args) {
        newObject();
        tape();
        goodTexts();
        noTokens();
        outOfPlace();
        outOfBounds();
        toldTwice();
        tooMany();
        noSuchHelpers();
        faultKeepsAll();
        takenTellsAll();
        told();
        askedBadly();
        due.close();
    }

    private static void newObject() {
        SpoonHates x = new SpoonHates();
        int[] rules = {0, 20, 8, 0, 0, 0, 0, 0, 0};
        for (int what = 0; what < rules.length; what++) {
            due.is("new: rule(" + what + ")", x.rule(what), rules[what]);
        }
        due.is("new: fault()", x.fault(), 0);
        due.is("new: torn()", x.torn(), 0);
        due.is("new: helper(0)", x.helper(0), -1);
        due.is("new: slip(0, 0)", x.slip(0, 0), -1);
        due.is("new: plan(0)", x.plan(0), -1);
        for (int what = 0; what < 4; what++) {
            due.is("new: count(" + what + ")", x.count(what), 0);
        }
        due.is("new: count(4)", x.count(4), -4);
        for (int k = 0; k < 4; k++) {
            due.is("new: lay(" + k + ", 0, 0)", x.lay(k, 0, 0), -11);
        }
        due.is("new: back(0)", x.back(0), -2);
        due.is("new: back(1)", x.back(1), -2);
    }

    private static void tape() {
        SpoonHates x = new SpoonHates();
        due.is("feed(-1)", x.feed(-1), -1);
        due.is("feed(128)", x.feed(128), -1);
        due.is("feed(0)", x.feed(0), 1);
        due.is("feed(127)", x.feed(127), 2);
        for (int i = 3; i <= 160; i++) {
            due.is("feed(32)", x.feed(32), i);
        }
        due.is("feed(32), the 161st", x.feed(32), -3);
        due.is("feed(128), the 161st", x.feed(128), -1);
        due.is("count(3)", x.count(3), 160);
        due.is("end(161)", x.end(161), -1);
        due.is("end(-1)", x.end(-1), -1);
        due.is("end(160)", x.end(160), 160);
        due.is("end(7)", x.end(7), 160);
        due.is("end(8)", x.end(8), -1);
        due.is("count(3)", x.count(3), 7);
        due.is("feed(32)", x.feed(32), 8);
        due.is("end(0)", x.end(0), 8);
        due.is("end(0)", x.end(0), 0);
        due.is("text()", x.text(), 0);
        Due.feedAll(x, "nun;brother");
        due.is("end(4)", x.end(4), 11);
        due.is("text() of the first 4", x.text(), 1);
        due.is("helper(0)", x.helper(0), 2);
        Due.feedAll(x, "nun;?");
        due.is("the tape is read from its beginning each time", x.text(), -14);
    }

    private static void reads(String text, int lines) {
        SpoonHates x = new SpoonHates();
        Due.feedAll(x, text);
        due.is("text() of '" + text + "'", x.text(), lines);
        due.is("fault() of '" + text + "'", x.fault(), 0);
        due.is("count(3) behind '" + text + "'", x.count(3), 0);
    }

    private static void refuses(String text, int place, int fault) {
        SpoonHates x = new SpoonHates();
        Due.feedAll(x, text);
        due.is("text() of '" + text + "'", x.text(), -10 - place);
        due.is("fault() of '" + text + "'", x.fault(), fault);
        due.is("count(3) behind '" + text + "'", x.count(3), 0);
    }

    private static void goodTexts() {
        reads("", 0);
        reads("    ", 0);
        reads("plain;", 1);
        reads("  plain  ;  ", 1);
        reads("plain;sullen;nun;brother;", 4);
        reads("plain;plain;plain;plain;plain;", 5);
        reads("plain;nun;hate0 1 9;", 3);
        reads("plain;nun;hate  00 01  09 ;", 3);
        reads("plain;nun;both 1 0 0;", 3);
        reads("plain;nun;hate 0 1 1;hate 1 0 1;", 4);
        reads("pot 1 1;", 1);
        reads("pot 99 12;", 1);
        reads("slip 0 1 1;slip 0 1 9;plan 1 0;plain;plain;", 5);
        reads("plain;plain;plain;plain;plain;plan 4 3;plan 3 4;", 7);
        reads("nun;nun;slip 0 1 1;slip 0 1 1;slip 0 1 1;slip 0 1 1;slip 0 1 1;slip 0 1 1;", 8);
        reads("nun;nun;plan 0 1;plan 0 1;plan 0 1;plan 0 1;plan 0 1;plan 0 1;plan 0 1;plan 0 1;", 10);
    }

    private static void noTokens() {
        refuses("Plain;", 0, 1);
        refuses("plain:", 5, 1);
        refuses("plain`", 5, 1);
        refuses("plain{", 5, 1);
        refuses("plain;\n", 6, 1);
        refuses("plain;\tnun;", 6, 1);
        refuses("\u0000", 0, 1);
        refuses("\u007f", 0, 1);
        refuses("pot 20 /", 7, 1);
        refuses("pot 20 :", 7, 1);
        refuses("pot 20 8-", 8, 1);
        refuses("pot 123 4;", 4, 1);
        refuses("pot 001 4;", 4, 1);
        refuses("pot 1 0001;", 6, 1);
        refuses("  123", 2, 1);
        refuses("plain 123;", 6, 1);
        refuses("plan 0 1 123;", 9, 1);
        refuses("hate 0 123 1;", 7, 1);
        // the sixth helper is met ahead of what stands behind it
        refuses("nun;nun;nun;nun;nun;nun?", 20, 5);
    }

    private static void outOfPlace() {
        String[] others = {"flain;", "pullen;", "sun;", "trother;", "late 0 1 1;", "doth 0 1 1;", "lot 1 1;",
            "flip 0 1 1;", "clan 0 1;", "plainn;", "hat 0 1 1;", "bothe 0 1 1;", "po 1 1;", "slop 0 1 1;", "pla 0 1;"};
        for (String other : others) {
            refuses(other, 0, 2);
        }
        refuses("plein;", 0, 2);
        refuses("plains;", 0, 2);
        refuses("plai;", 0, 2);
        refuses("nunnun;", 0, 2);
        refuses("plain;planet 0 1;", 6, 2);
        refuses("12;", 0, 2);
        refuses(";", 0, 2);
        refuses("nun;;", 4, 2);
        refuses("plain", 5, 2);
        refuses("plain  ", 7, 2);
        refuses("plain 1;", 6, 2);
        refuses("plain nun;", 6, 2);
        refuses("pot", 3, 2);
        refuses("pot 20;", 6, 2);
        refuses("pot 20 ;", 7, 2);
        refuses("pot a 8;", 4, 2);
        refuses("pot 20 8 9;", 9, 2);
        refuses("hate", 4, 2);
        refuses("hate 0", 6, 2);
        refuses("hate 0 1;", 8, 2);
        refuses("hate 0 1 2 3;", 11, 2);
        refuses("both 0 nun 2;", 7, 2);
        refuses("slip 0 1;", 8, 2);
        refuses("slip 0 1 2", 10, 2);
        refuses("plan 0;", 6, 2);
        refuses("plan 0 1 2;", 9, 2);
    }

    private static void outOfBounds() {
        refuses("hate 5 0 1;", 5, 3);
        refuses("hate 0 5 1;", 7, 3);
        refuses("hate 0 19;", 7, 3);
        refuses("hate 1 1 1;", 7, 3);
        refuses("hate 1 01 1;", 7, 3);
        refuses("hate 0 1 10;", 9, 3);
        refuses("both 5 0 1;", 5, 3);
        refuses("both 4 4 1;", 7, 3);
        refuses("both 0 1 10;", 9, 3);
        refuses("pot 0 1;", 4, 3);
        refuses("pot 99 0;", 7, 3);
        refuses("pot 99 13;", 7, 3);
        refuses("slip 5 1 1;", 5, 3);
        refuses("slip 2 2 1;", 7, 3);
        refuses("slip 0 1 0;", 9, 3);
        refuses("slip 0 1 10;", 9, 3);
        refuses("plan 5 0;", 5, 3);
        refuses("plan 0 5;", 7, 3);
        refuses("plan 3 3;", 7, 3);
    }

    private static void toldTwice() {
        refuses("pot 1 1;pot 1 1;", 8, 4);
        refuses("pot 1 1;  pot?", 10, 4);
        refuses("hate 0 1 1;hate 0 1 10;", 18, 4);
        refuses("hate 0 1 1;hate 0 1", 18, 4);
        refuses("hate 0 1 1;both 0 1 1;", 18, 4);
        refuses("hate 0 1 1;both 1 0 1;", 18, 4);
        refuses("both 0 1 1;hate 0 1 1;", 18, 4);
        refuses("both 0 1 1;hate 1 0 1;", 18, 4);
        refuses("both 0 1 1;both 1 0 1;", 18, 4);
        refuses("both 4 3 0;both 4 2 0;hate 3 4 0;", 29, 4);
        refuses("hate 0 1 1;hate 0 0 1;", 18, 3);
    }

    private static void tooMany() {
        refuses("nun;nun;nun;nun;nun;nun;", 20, 5);
        refuses("nun;nun;nun;nun;nun;plain", 20, 5);
        refuses("slip 0 1 1;slip 0 1 1;slip 0 1 1;slip 0 1 1;slip 0 1 1;slip 0 1 1;slip 7", 66, 5);
        refuses("plan 0 1;plan 0 1;plan 0 1;plan 0 1;plan 0 1;plan 0 1;plan 0 1;plan 0 1;plan 7", 72, 5);
    }

    private static void noSuchHelpers() {
        refuses("hate 0 1 1;", 11, 6);
        refuses("plain;plan 0 1;", 15, 6);
        refuses("plain;plan 1 0;  ", 17, 6);
        refuses("plain;plain;both 0 2 1;", 23, 6);
        refuses("plain;plain;both 2 0 1;", 23, 6);
        refuses("plain;plain;plain;plain;slip 3 4 1;", 35, 6);
        refuses("plain;plain;plain;plain;slip 4 3 1;pot 1 1;", 43, 6);
        refuses("hate 0 1 1;;", 11, 2);
    }

    private static void faultKeepsAll() {
        SpoonHates x = Due.told("plain;nun;hate 0 1 5;hate 1 0 9;pot 30 9;slip 0 1 2;plan 0 1;");
        x.stir(0, 1);
        x.see(2, 3);
        x.keep(1);
        x.use(0);
        String before = Due.state(x);
        Due.feedAll(x, "brother;brother;both 0 1 7;pot 2 2;slip 1 0 3;plan 1 0;plan 1 0;?");
        due.is("text() with a fault at the end", x.text(), -10 - 64);
        due.is("fault()", x.fault(), 1);
        due.is("count(3)", x.count(3), 0);
        due.is("what was told stays", Due.state(x).equals(before.replace(" f0", " f1")) ? 1 : 0, 1);
        due.is("its image stays", x.back(1), 3);
    }

    private static void takenTellsAll() {
        SpoonHates x = Due.told("plain;nun;nun;both 0 1 5;both 1 2 4;pot 30 1;slip 0 1 2;slip 1 0 2;plan 0 1;plan 0 2;");
        x.stir(1, 0);
        x.use(1);
        x.see(0, 0);
        x.keep(0);
        x.keep(1);
        x.sheet(0, 2, 3);
        x.read(0, 1, 0, 1);
        Due.feedAll(x, "sullen;plain;hate 1 0 4;");
        due.is("text()", x.text(), 3);
        int[] rules = {2, 20, 8, 0, 0, 0, 0, 0, 0};
        for (int what = 0; what < rules.length; what++) {
            due.is("told anew: rule(" + what + ")", x.rule(what), rules[what]);
        }
        due.is("helper(0)", x.helper(0), 1);
        due.is("helper(1)", x.helper(1), 0);
        due.is("helper(2)", x.helper(2), -1);
        due.is("hatred(0, 1, 0)", x.hatred(0, 1, 0), 0);
        due.is("hatred(1, 0, 0)", x.hatred(1, 0, 0), 4);
        due.is("count(0)", x.count(0), 4);
        due.is("count(1)", x.count(1), 0);
        due.is("count(2)", x.count(2), 0);
        due.is("back(0)", x.back(0), -2);
        due.is("back(1)", x.back(1), -2);
        due.is("its sheet stays", x.count(4), 3);
        due.is("torn() stays", x.torn(), 3);
        x.stir(0, 1);
        x.teach(0, 3);
        due.is("text() of nothing", x.text(), 0);
        due.is("rule(0)", x.rule(0), 0);
        due.is("rule(3)", x.rule(3), 0);
        due.is("count(0)", x.count(0), 0);
        Due.feedAll(x, "both 0 1 3;plain;plain;?");
        due.is("text()", x.text(), -10 - 23);
        due.is("fault()", x.fault(), 1);
        Due.feedAll(x, "nun;nun;");
        due.is("text() behind a fault", x.text(), 2);
        due.is("fault() is gone", x.fault(), 0);
        due.is("count(0): nothing of the refused text", x.count(0), 0);
        Due.feedAll(x, "both 0 1 3;plain;plain;pot 4 5;");
        due.is("text(): told again is not told twice", x.text(), 4);
        due.is("rule(1)", x.rule(1), 4);
        due.is("stir, set", x.hate(0, 1, 0) + x.hate(1, 0, 0) + x.stir(0, 1), 6);
        due.is("rule(5)", x.rule(5), 1);
        Due.feedAll(x, "nun;nun;");
        due.is("text()", x.text(), 2);
        due.is("rule(5): a new pot is not set", x.rule(5), 0);
        due.is("rule(2)", x.rule(2), 8);
    }

    private static void told() {
        SpoonHates x = Due.told("brother;nun;plain;sullen;plain;hate 0 1 4;hate 1 0 8;both 4 3 7;hate 2 4 1;"
                + "pot 45 11;slip 4 0 9;slip 3 2 1;plan 4 1;plan 0 3;");
        int[] rules = {5, 45, 11, 0, 0, 0, 2, 0, 2};
        for (int what = 0; what < rules.length; what++) {
            due.is("told: rule(" + what + ")", x.rule(what), rules[what]);
        }
        int[] kinds = {3, 2, 0, 1, 0};
        for (int a = 0; a < kinds.length; a++) {
            due.is("told: helper(" + a + ")", x.helper(a), kinds[a]);
        }
        due.is("hatred(0, 1, 0)", x.hatred(0, 1, 0), 4);
        due.is("hatred(0, 1, 1): a brother feels twice", x.hatred(0, 1, 1), 8);
        due.is("hatred(1, 0, 0)", x.hatred(1, 0, 0), 8);
        due.is("hatred(1, 0, 1): a nun feels 3 at most", x.hatred(1, 0, 1), 3);
        due.is("hatred(4, 3, 0)", x.hatred(4, 3, 0), 7);
        due.is("hatred(4, 3, 1): a plain one feels all", x.hatred(4, 3, 1), 7);
        due.is("hatred(3, 4, 0)", x.hatred(3, 4, 0), 7);
        due.is("hatred(3, 4, 1): a sullen one feels 1 less", x.hatred(3, 4, 1), 6);
        due.is("hatred(3, 2, 1): but not below 0", x.hatred(3, 2, 1), 0);
        due.is("hatred(2, 4, 1)", x.hatred(2, 4, 1), 1);
        due.is("hatred(4, 2, 0)", x.hatred(4, 2, 0), 0);
        x.hate(1, 0, 3);
        due.is("hatred(1, 0, 1)", x.hatred(1, 0, 1), 3);
        x.hate(1, 0, 2);
        due.is("hatred(1, 0, 1)", x.hatred(1, 0, 1), 2);
        x.hate(0, 1, 9);
        due.is("hatred(0, 1, 1)", x.hatred(0, 1, 1), 18);
        int[][] slips = {{4, 0, 9, 0}, {3, 2, 1, 0}};
        for (int i = 0; i < 2; i++) {
            for (int what = 0; what < 4; what++) {
                due.is("told: slip(" + i + ", " + what + ")", x.slip(i, what), slips[i][what]);
            }
        }
        due.is("plan(0)", x.plan(0), 14);
        due.is("plan(1)", x.plan(1), 3);
        x.use(1);
        due.is("slip(1, 3)", x.slip(1, 3), 1);
        due.is("slip(0, 3)", x.slip(0, 3), 0);
        due.is("rule(7)", x.rule(7), 2);
        x.use(0);
        due.is("rule(7)", x.rule(7), 3);
        x.stir(1, 0);
        due.is("rule(3)", x.rule(3), 1);
        due.is("rule(4)", x.rule(4), 2);
    }

    private static void askedBadly() {
        SpoonHates x = Due.told("brother;nun;plain;slip 0 1 1;slip 0 1 1;plan 0 1;");
        due.is("rule(-1)", x.rule(-1), -1);
        due.is("rule(9)", x.rule(9), -1);
        due.is("helper(-1)", x.helper(-1), -1);
        due.is("helper(2)", x.helper(2), 0);
        due.is("helper(3)", x.helper(3), -1);
        due.is("helper(5)", x.helper(5), -1);
        due.is("hatred(0, 0, 0)", x.hatred(0, 0, 0), -1);
        due.is("hatred(0, 3, 0)", x.hatred(0, 3, 0), -1);
        due.is("hatred(3, 0, 0)", x.hatred(3, 0, 0), -1);
        due.is("hatred(-1, 0, 0)", x.hatred(-1, 0, 0), -1);
        due.is("hatred(0, -1, 1)", x.hatred(0, -1, 1), -1);
        due.is("hatred(0, 1, -1)", x.hatred(0, 1, -1), -1);
        due.is("hatred(0, 1, 2)", x.hatred(0, 1, 2), -1);
        due.is("slip(-1, 0)", x.slip(-1, 0), -1);
        due.is("slip(2, 0)", x.slip(2, 0), -1);
        due.is("slip(6, 0)", x.slip(6, 0), -1);
        due.is("slip(0, -1)", x.slip(0, -1), -1);
        due.is("slip(0, 4)", x.slip(0, 4), -1);
        due.is("plan(-1)", x.plan(-1), -1);
        due.is("plan(1)", x.plan(1), -1);
        due.is("plan(8)", x.plan(8), -1);
    }
}
