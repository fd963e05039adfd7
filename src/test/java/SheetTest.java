/** Promises 37 to 43: images, sheets, counts. */
public final class SheetTest {
    private static final Due due = new Due("SheetTest");

    public static void main(String[] args) {
        images();
        imageHoldsAll();
        sheets();
        lay();
        read();
        readFaults();
        readRefused();
        count();
        due.close();
    }

    private static void images() {
        SpoonHates x = Due.told("plain;plain;both 0 1 5;");
        due.is("keep(-1)", x.keep(-1), -1);
        due.is("keep(2)", x.keep(2), -1);
        due.is("back(-1)", x.back(-1), -1);
        due.is("back(2)", x.back(2), -1);
        due.is("back(0)", x.back(0), -2);
        due.is("keep(1)", x.keep(1), 0);
        due.is("count(2)", x.count(2), 1);
        due.is("back(0)", x.back(0), -2);
        due.is("stir(0, 1)", x.stir(0, 1), 5);
        due.is("keep(0)", x.keep(0), 0);
        due.is("count(2)", x.count(2), 2);
        due.is("stir(0, 1)", x.stir(0, 1), 9);
        due.is("back(1)", x.back(1), 0);
        due.is("rule(3)", x.rule(3), 0);
        due.is("back(0)", x.back(0), 5);
        due.is("rule(3)", x.rule(3), 1);
        due.is("back(0) again", x.back(0), 5);
        due.is("keep(1)", x.keep(1), 1);
        due.is("stir(0, 1)", x.stir(0, 1), 9);
        due.is("back(1)", x.back(1), 5);
        due.is("count(2)", x.count(2), 2);
    }

    private static void imageHoldsAll() {
        SpoonHates x = Due.told("plain;nun;sullen;both 0 1 3;both 1 2 2;pot 11 3;slip 0 1 2;slip 1 2 3;plan 0 1;plan 0 2;");
        x.see(3, 2);
        x.use(1);
        String before = Due.state(x);
        x.keep(0);
        x.keep(1);
        x.teach(0, 3);
        x.use(0);
        x.set(0, 50);
        x.set(1, 9);
        x.cut(1);
        x.plans(1, 2);
        x.forget(0);
        x.see(0, 4);
        x.stir(1, 2);
        x.hate(0, 1, 0);
        x.hate(1, 0, 0);
        due.is("stir(0, 1)", x.stir(0, 1), 1);
        due.is("rule(5)", x.rule(5), 1);
        due.is("back(0)", x.back(0), 0);
        x.keep(0);
        due.is("all but how many images", Due.state(x).replace(" c2 c0 c-4", " c0 c0 c-4").equals(before) ? 1 : 0, 1);
        due.is("fits(0, 1, 0): seen as it was", x.fits(0, 1, 1), 55);
        due.is("use(1)", x.use(1), -2);
        due.is("use(0)", x.use(0), 5);
        due.is("back(1)", x.back(1), 0);
        due.is("hatred(0, 1, 0)", x.hatred(0, 1, 0), 3);
        due.is("use(0)", x.use(0), 5);
    }

    private static void sheets() {
        SpoonHates x = new SpoonHates();
        due.is("sheet(-1, 0, 1)", x.sheet(-1, 0, 1), -1);
        due.is("sheet(4, 0, 1)", x.sheet(4, 0, 1), -1);
        due.is("sheet(0, -1, 1)", x.sheet(0, -1, 1), -1);
        due.is("sheet(0, 3, 1)", x.sheet(0, 3, 1), -1);
        due.is("sheet(0, 0, 41)", x.sheet(0, 0, 41), -1);
        due.is("sheet(0, 0, -1)", x.sheet(0, 0, -1), -14);
        due.is("sheet(4, 0, -1)", x.sheet(4, 0, -1), -1);
        due.is("sheet(0, 3, -1)", x.sheet(0, 3, -1), -1);
        due.is("count(4)", x.count(4), -4);
        due.is("sheet(0, 0, 0)", x.sheet(0, 0, 0), 1);
        due.is("count(4)", x.count(4), 0);
        due.is("sheet(0, 2, 40)", x.sheet(0, 2, 40), 1);
        due.is("count(4)", x.count(4), 40);
        due.is("sheet(0, 1, -5)", x.sheet(0, 1, -5), -14);
        due.is("sheet(0, 1, 41)", x.sheet(0, 1, 41), -1);
        due.is("count(4)", x.count(4), 40);
        due.is("sheet(3, 1, 7)", x.sheet(3, 1, 7), 1);
        due.is("lay(3, 6, 1)", x.lay(3, 6, 1), 1);
        due.is("lay(3, 7, 1)", x.lay(3, 7, 1), -12);
    }

    private static void lay() {
        SpoonHates x = Due.told("plain;plain;both 0 1 9;");
        due.is("lay(-1, 0, 1)", x.lay(-1, 0, 1), -1);
        due.is("lay(4, 0, 1)", x.lay(4, 0, 1), -1);
        due.is("lay(0, 0, 1)", x.lay(0, 0, 1), -11);
        due.is("lay(0, -1, 1)", x.lay(0, -1, 1), -11);
        x.sheet(0, 0, 2);
        due.is("lay(0, -1, 1)", x.lay(0, -1, 1), -12);
        due.is("lay(0, 2, 1)", x.lay(0, 2, 1), -12);
        due.is("lay(0, greatest, 1)", x.lay(0, Integer.MAX_VALUE, 1), -12);
        due.is("lay(0, 1, 257): a byte's bits", x.lay(0, 1, 257), 1);
        due.is("read(0, 0, 0, 1)", x.read(0, 0, 0, 1), 1);
        due.is("lay(0, 1, 129)", x.lay(0, 1, 129), 1);
        due.is("read(0, 0, 0, 1): -127 is none", x.read(0, 0, 0, 1), -20);
        x.sheet(1, 1, 2);
        due.is("lay(1, 1, 65537): a short's bits", x.lay(1, 1, 65537), 1);
        due.is("read(1, 1, 0, 1)", x.read(1, 1, 0, 1), 1);
        due.is("lay(1, 1, 257)", x.lay(1, 1, 257), 1);
        due.is("read(1, 1, 0, 1)", x.read(1, 1, 0, 1), -20);
        x.sheet(2, 2, 2);
        due.is("lay(2, 1, 65537): an int's bits", x.lay(2, 1, 65537), 1);
        due.is("read(2, 2, 0, 1)", x.read(2, 2, 0, 1), -20);
        due.is("lay(2, 1, 1)", x.lay(2, 1, 1), 1);
        due.is("read(2, 2, 0, 1)", x.read(2, 2, 0, 1), 1);
        due.is("sheet(2, 2, 2): its cells are 0 again", x.sheet(2, 2, 2), 1);
        due.is("read(2, 2, 0, 1)", x.read(2, 2, 0, 1), -20);
        due.is("lay(2, 0, 7)", x.lay(2, 0, 7) + x.sheet(2, 2, 2) + x.lay(2, 1, 1), 3);
        due.is("read(2, 2, 0, 1): the first cell is 0 again", x.read(2, 2, 0, 1), 1);
        due.is("rule(3)", x.rule(3), 4);
        due.is("lay(0, 0, 256)", x.lay(0, 0, 256) + x.lay(0, 1, 1), 2);
        due.is("read(0, 0, 0, 1)", x.read(0, 0, 0, 1), 1);
        x.sheet(3, 2, 2);
        due.is("lay(3, 1, 1)", x.lay(3, 1, 1), 1);
        due.is("read(3, 2, 0, 1)", x.read(3, 2, 0, 1), 1);
    }

    private static void layAll(SpoonHates x, int k, int... cells) {
        for (int i = 0; i < cells.length; i++) {
            x.lay(k, i, cells[i]);
        }
    }

    private static void read() {
        SpoonHates x = Due.told("plain;plain;plain;both 0 1 9;both 1 2 5;pot 30 12;");
        x.sheet(0, 1, 7);
        layAll(x, 0, 0, 1, 2, 1, 1, 0, 2);
        due.is("read(0, 1, 0, 3)", x.read(0, 1, 0, 3), 3);
        due.is("torn()", x.torn(), 0);
        due.is("rule(4): 9 and 5 and 8", x.rule(4), 22);
        due.is("rule(3)", x.rule(3), 3);
        due.is("read(0, 1, 2, 1)", x.read(0, 1, 2, 1), 1);
        due.is("rule(4): 4 more", x.rule(4), 26);
        due.is("read(0, 1, 1, 3): 1 and 2, then 1 and 1", x.read(0, 1, 1, 3), -21);
        due.is("rule(4): nothing is stirred", x.rule(4), 26);
    }

    private static void readFaults() {
        SpoonHates x = Due.told("plain;plain;plain;both 0 1 9;both 1 2 5;pot 30 12;");
        due.is("read(0, 0, 0, 1) of nothing", x.read(0, 0, 0, 1), 0);
        due.is("torn()", x.torn(), 1);
        due.is("read(0, 0, -5, 0) of nothing", x.read(0, 0, -5, 0), 0);
        due.is("torn()", x.torn(), 0);
        x.sheet(0, 2, 5);
        layAll(x, 0, 0, 1, 2, 1, 0);
        due.is("read(0, 1, 0, 1)", x.read(0, 1, 0, 1), 0);
        due.is("torn()", x.torn(), 3);
        due.is("read(0, 1, 9, 1): CAST ahead of INDEX", x.read(0, 1, 9, 1), 0);
        due.is("torn()", x.torn(), 3);
        due.is("read(0, 1, 0, 0)", x.read(0, 1, 0, 0), 0);
        due.is("torn()", x.torn(), 0);
        due.is("read(0, 2, 0, 3): the third is torn", x.read(0, 2, 0, 3), 2);
        due.is("torn()", x.torn(), 2);
        due.is("rule(4)", x.rule(4), 14);
        due.is("read(0, 2, 0, 12)", x.read(0, 2, 0, 12), 2);
        due.is("rule(4)", x.rule(4), 26);
        int[] places = {-1, -2, -3, 4, 5, 6, Integer.MAX_VALUE, Integer.MIN_VALUE};
        for (int f : places) {
            due.is("read(0, 2, " + f + ", 2)", x.read(0, 2, f, 2), 0);
            due.is("torn()", x.torn(), 2);
            x.read(0, 2, 0, 0);
        }
        x.read(0, 2, 9, 1);
        due.is("read(-1, 0, 0, 0)", x.read(-1, 0, 0, 0), -1);
        due.is("read(4, 0, 0, 0)", x.read(4, 0, 0, 0), -1);
        due.is("read(0, -1, 0, 0)", x.read(0, -1, 0, 0), -1);
        due.is("read(0, 3, 0, 0)", x.read(0, 3, 0, 0), -1);
        due.is("read(0, 2, 0, -1)", x.read(0, 2, 0, -1), -1);
        due.is("read(0, 2, 0, 13)", x.read(0, 2, 0, 13), -1);
        due.is("torn() is left", x.torn(), 2);
        x.sheet(0, 2, 0);
        due.is("read(0, 2, 0, 1) of no cells", x.read(0, 2, 0, 1), 0);
        due.is("torn()", x.torn(), 2);
    }

    private static void readRefused() {
        SpoonHates x = Due.told("plain;plain;plain;both 0 1 9;both 1 2 5;pot 30 3;");
        x.sheet(1, 0, 9);
        layAll(x, 1, 0, 1, 2, 1, 2, 2, 3, 0, 0);
        x.read(1, 1, 0, 1);
        String before = Due.state(x);
        due.keeps("read(1, 0, 0, 4): the third, alike", x, before, x.read(1, 0, 0, 4), -22);
        due.is("torn() is left", x.torn(), 3);
        due.is("read(1, 0, 6, 2): no such helper, ahead of the tear", x.read(1, 0, 6, 2), -20);
        x.lay(1, 4, 0);
        due.is("read(1, 0, 0, 4): the fourth", x.read(1, 0, 0, 4), -23);
        x.lay(1, 6, -1);
        due.is("read(1, 0, 2, 4): the third of these", x.read(1, 0, 2, 4), -22);
        x.lay(1, 6, 1);
        due.is("read(1, 0, 0, 4): it is noon", x.read(1, 0, 0, 4), -23);
        due.is("rule(3)", x.rule(3), 0);
        due.is("read(1, 0, 0, 3)", x.read(1, 0, 0, 3), 3);
        due.is("torn()", x.torn(), 0);
        due.is("read(1, 0, 0, 1): nobody stirs", x.read(1, 0, 0, 1), -20);
        due.is("read(1, 0, 8, 1): torn ahead of it", x.read(1, 0, 8, 1), 0);
        due.is("torn()", x.torn(), 2);
        SpoonHates y = Due.told("plain;plain;plain;both 0 1 9;");
        y.sheet(0, 0, 40);
        layAll(y, 0, 0, 2, 0, 1);
        due.is("read(0, 0, 0, 2): it sets", y.read(0, 0, 0, 2), -21);
        due.is("rule(5)", y.rule(5), 0);
        due.is("read(0, 0, 0, 1)", y.read(0, 0, 0, 1), 1);
        due.is("rule(5)", y.rule(5), 1);
    }

    private static void count() {
        SpoonHates x = Due.told("plain;plain;plain;both 0 1 9;hate 2 0 3;");
        due.is("count(0)", x.count(0), 21);
        due.is("count(1)", x.count(1), 0);
        x.see(1, 1);
        due.is("count(1)", x.count(1), 1);
        x.keep(1);
        due.is("count(2)", x.count(2), 1);
        x.feed(65);
        x.feed(66);
        due.is("count(3)", x.count(3), 2);
        x.sheet(1, 0, 9);
        due.is("count(4)", x.count(4), -4);
        x.sheet(0, 0, 9);
        due.is("count(4)", x.count(4), 9);
        due.is("count(5)", x.count(5), -1);
        due.is("count(-1)", x.count(-1), -1);
    }
}
