import java.util.Arrays;

/** Promises 37 to 43, at their edges: each method is a sentence of the document. */
public final class SheetEdgesTest {
    private static final Due due = new Due("SheetEdgesTest");
    private static final String FIVE = "plain;plain;plain;plain;plain;";
    private static final int[] ENDS = {Integer.MIN_VALUE, Integer.MIN_VALUE + 1, Integer.MAX_VALUE - 1,
        Integer.MAX_VALUE};

    public static void main(String[] args) {
        keepTwoImages();
        imagesKeepTheirs();
        imagesAreGoneByAText();
        sheetFrom0To40();
        sheetIsNew();
        sheetsByThemselves();
        sheetsAreLeft();
        layTheLowestBits();
        layAtTheEnds();
        readFromTheFirstToTheLastCell();
        readFrom0To12();
        readOfNone();
        readTornOnTheWay();
        readFaultsByRank();
        readRefused();
        readIsAsByStir();
        tornIsOfTheLatestRead();
        counts();
        due.close();
    }

    private static void keepTwoImages() {
        SpoonHates x = Due.told("plain;plain;both0 1 9;");
        for (int k : new int[] {-1, 2, Integer.MIN_VALUE, Integer.MAX_VALUE}) {
            due.is("keep(" + k + ")", x.keep(k), -1);
            due.is("back(" + k + ")", x.back(k), -1);
        }
        due.is("count(2)", x.count(2), 0);
        due.is("back(0)", x.back(0), -2);
        due.is("back(1)", x.back(1), -2);
        due.is("keep(0)", x.keep(0), 0);
        due.is("count(2)", x.count(2), 1);
        due.is("back(1)", x.back(1), -2);
        due.is("stir(0, 1)", x.stir(0, 1), 9);
        due.is("keep(1)", x.keep(1), 0);
        due.is("count(2)", x.count(2), 2);
        due.is("stir(0, 1)", x.stir(0, 1), 17);
        due.is("back(0)", x.back(0), 0);
        due.is("back(1)", x.back(1), 9);
        due.is("keep(0): there was one", x.keep(0), 1);
        due.is("count(2)", x.count(2), 2);
        due.is("back(0)", x.back(0), 9);
        due.is("back(0) again", x.back(0), 9);
        SpoonHates nobody = new SpoonHates();
        due.is("keep(1) of nobody", nobody.keep(1), 0);
        due.is("back(1) of nobody", nobody.back(1), 0);
        due.is("keep(1) of nobody again", nobody.keep(1), 1);
    }

    private static void imagesKeepTheirs() {
        SpoonHates x = Due.told("plain;nun;sullen;brother;plain;both3 4 9;both0 1 9;pot40 5;"
                + "slip0 1 1;slip3 4 1;plan3 4;");
        x.see(1, 1);
        x.sheet(0, 0, 7);
        x.keep(0);
        String before = Due.state(x);
        x.stir(3, 4);
        x.use(1);
        x.teach(3, 0);
        x.set(0, 9);
        x.set(1, 12);
        x.plans(0, 1);
        x.cut(0);
        x.plans(1, 2);
        x.plans(1, 4);
        x.see(2, 2);
        x.stir(1, 2);
        due.is("rule(5)", x.rule(5), 1);
        due.is("back(0)", x.back(0), 0);
        due.is("all is as it was", Due.state(x).equals(before) ? 1 : 0, 1);
        x.stir(3, 4);
        x.hate(0, 1, 1);
        x.sheet(0, 0, 8);
        x.feed(32);
        due.is("back(0)", x.back(0), 0);
        due.is("hatred(0, 1, 0)", x.hatred(0, 1, 0), 9);
        due.is("hatred(3, 4, 0)", x.hatred(3, 4, 0), 9);
        due.is("no image has sheets", x.count(4), 8);
        due.is("no image has a tape", x.count(3), 1);
        due.is("no image has images", x.count(2), 1);
    }

    private static void imagesAreGoneByAText() {
        SpoonHates x = Due.told("nun;nun;");
        x.keep(0);
        x.keep(1);
        Due.feedAll(x, "?");
        due.is("text() that is refused", x.text(), -10);
        due.is("count(2)", x.count(2), 2);
        due.is("back(1)", x.back(1), 0);
        Due.feedAll(x, "nun;");
        due.is("text() that is taken", x.text(), 1);
        due.is("count(2)", x.count(2), 0);
        due.is("back(0)", x.back(0), -2);
        due.is("back(1)", x.back(1), -2);
        due.is("keep(1): there was none", x.keep(1), 0);
    }

    private static void sheetFrom0To40() {
        for (int lane = 0; lane < 3; lane++) {
            SpoonHates x = new SpoonHates();
            due.is("count(4)", x.count(4), -4);
            due.is("sheet(0, " + lane + ", -1) of nothing", x.sheet(0, lane, -1), -14);
            due.is("count(4): it is nothing still", x.count(4), -4);
            for (int n = 0; n <= 40; n++) {
                due.is("sheet(0, " + lane + ", " + n + ")", x.sheet(0, lane, n), 1);
                due.is("count(4)", x.count(4), n);
                due.is("lay(0, " + n + ", 1)", x.lay(0, n, 1), -12);
                due.is("lay(0, " + (n - 1) + ", 1)", x.lay(0, n - 1, 1), n == 0 ? -12 : 1);
            }
            due.is("sheet(0, " + lane + ", 41)", x.sheet(0, lane, 41), -1);
            due.is("sheet(0, " + lane + ", -1)", x.sheet(0, lane, -1), -14);
            due.is("sheet(0, " + lane + ", least)", x.sheet(0, lane, Integer.MIN_VALUE), -14);
            due.is("sheet(0, " + lane + ", greatest)", x.sheet(0, lane, Integer.MAX_VALUE), -1);
            due.is("count(4)", x.count(4), 40);
        }
        SpoonHates x = new SpoonHates();
        due.is("sheet(0, -1, 1)", x.sheet(0, -1, 1), -1);
        due.is("sheet(0, 3, 1)", x.sheet(0, 3, 1), -1);
        due.is("sheet(-1, 0, 1)", x.sheet(-1, 0, 1), -1);
        due.is("sheet(4, 0, 1)", x.sheet(4, 0, 1), -1);
    }

    private static void sheetIsNew() {
        SpoonHates x = Due.told("plain;plain;both0 1 9;pot99 12;");
        for (int lane = 0; lane < 3; lane++) {
            Due.lay(x, 0, lane, 1, 0);
            due.is("read(0, " + lane + ", 0, 1)", x.read(0, lane, 0, 1), 1);
            due.is("sheet(0, " + lane + ", 2)", x.sheet(0, lane, 2), 1);
            due.is("its first cell is 0: 0 and 0", x.read(0, lane, 0, 1), -20);
            x.lay(0, 1, 1);
            due.is("its first cell is 0: 0 and 1", x.read(0, lane, 0, 1), 1);
            due.is("sheet(0, " + lane + ", 2)", x.sheet(0, lane, 2), 1);
            x.lay(0, 0, 1);
            due.is("its second cell is 0: 1 and 0", x.read(0, lane, 0, 1), 1);
        }
        // a longer one behind a shorter one has no old cells
        Due.lay(x, 1, 0, 1, 1, 1, 1, 1, 1);
        x.sheet(1, 0, 0);
        x.sheet(1, 0, 6);
        x.lay(1, 5, 1);
        due.is("read(1, 0, 4, 1): 0 and 1", x.read(1, 0, 4, 1), 1);
        due.is("read(1, 0, 2, 1): 0 and 0", x.read(1, 0, 2, 1), -20);
    }

    private static void sheetsByThemselves() {
        SpoonHates x = Due.told(FIVE + "both0 1 9;both1 2 8;both2 3 7;both3 4 6;");
        for (int k = 0; k < 4; k++) {
            Due.lay(x, k, k % 3, k, k + 1);
        }
        int done = 0;
        for (int k = 0; k < 4; k++) {
            due.is("read(" + k + ", .., 0, 1)", x.read(k, k % 3, 0, 1), 1);
            done += 9 - k;
            due.is("rule(4)", x.rule(4), done);
        }
        x.sheet(2, 0, 0);
        due.is("read(3, 0, 0, 1)", x.read(3, 0, 0, 1), 1);
        due.is("rule(4)", x.rule(4), done + 5);
    }

    /** No text tells a sheet, and no image holds one. */
    private static void sheetsAreLeft() {
        String text = FIVE + "both0 1 9;both1 2 8;both2 3 7;both3 4 6;";
        SpoonHates x = Due.told(text);
        for (int k = 0; k < 4; k++) {
            Due.lay(x, k, (k + 1) % 3, k, k + 1);
        }
        x.keep(0);
        Due.feedAll(x, text);
        due.is("text()", x.text(), 9);
        for (int k = 0; k < 4; k++) {
            due.is("read(" + k + ") behind a text", x.read(k, (k + 1) % 3, 0, 1), 1);
        }
        due.is("rule(4)", x.rule(4), 9 + 8 + 7 + 6);
        x.keep(1);
        for (int k = 0; k < 4; k++) {
            Due.lay(x, k, k % 3, k + 1, k);
        }
        due.is("back(1)", x.back(1), 30);
        for (int k = 0; k < 4; k++) {
            due.is("read(" + k + ") behind an image", x.read(k, k % 3, 0, 1), 1);
        }
        due.is("rule(4)", x.rule(4), 30 + 8 + 7 + 6 + 5);
    }

    /** Whether cells that a lane makes of v and 1 are 0 and 1. */
    private static void laid(int lane, int v, boolean isZero) {
        SpoonHates x = Due.told("plain;plain;both0 1 9;");
        Due.lay(x, 0, lane, v, 1);
        due.is("lane " + lane + " makes 0 of " + v, x.read(0, lane, 0, 1), isZero ? 1 : -20);
    }

    private static void layTheLowestBits() {
        int[] ofBytes = {256, -256, 512, 1 << 15, 0xFF00, 0x7F00};
        int[] ofShorts = {65536, -65536, 1 << 17, 1 << 30, Integer.MIN_VALUE, 0x7FFF0000};
        int[] ofNone = {2, 127, 128, 129, 255, -1, -128, -127};
        int[] notOfBytes = {257 + 1, 511, 32767, -32767, Integer.MAX_VALUE};
        for (int v : ofBytes) {
            laid(0, v, true);
            laid(1, v, false);
            laid(2, v, false);
        }
        for (int v : ofShorts) {
            laid(0, v, true);
            laid(1, v, true);
            laid(2, v, false);
        }
        for (int lane = 0; lane < 3; lane++) {
            laid(lane, 0, true);
            for (int v : ofNone) {
                laid(lane, v, false);
            }
            for (int v : notOfBytes) {
                laid(lane, v, false);
            }
        }
        SpoonHates x = Due.told(FIVE + "both3 4 9;");
        Due.lay(x, 0, 0, 259, -252);
        Due.lay(x, 1, 1, 65539, -65532);
        Due.lay(x, 2, 2, 3, 4);
        due.is("read of a byte 259 and -252: 3 and 4", x.read(0, 0, 0, 1) + x.rule(4), 1 + 9);
        due.is("read of a short 65539 and -65532: 3 and 4", x.read(1, 1, 0, 1) + x.rule(4), 1 + 17);
        due.is("read of an int 3 and 4", x.read(2, 2, 0, 1) + x.rule(4), 1 + 24);
    }

    private static void layAtTheEnds() {
        SpoonHates x = new SpoonHates();
        for (int k : new int[] {-1, 4, Integer.MIN_VALUE, Integer.MAX_VALUE}) {
            due.is("lay(" + k + ", 0, 0)", x.lay(k, 0, 0), -1);
        }
        for (int k = 0; k < 4; k++) {
            due.is("lay(" + k + ", 0, 0) of nothing", x.lay(k, 0, 0), -11);
            due.is("lay(" + k + ", -1, 0) of nothing", x.lay(k, -1, 0), -11);
            x.sheet(k, k % 3, 0);
            due.is("lay(" + k + ", 0, 0) of no cells", x.lay(k, 0, 0), -12);
            x.sheet(k, k % 3, 3);
            due.is("lay(" + k + ", -1, 0)", x.lay(k, -1, 0), -12);
            due.is("lay(" + k + ", 0, 0)", x.lay(k, 0, 0), 1);
            due.is("lay(" + k + ", 2, 0)", x.lay(k, 2, 0), 1);
            due.is("lay(" + k + ", 3, 0)", x.lay(k, 3, 0), -12);
            for (int i : ENDS) {
                due.is("lay(" + k + ", " + i + ", 0)", x.lay(k, i, 0), -12);
            }
        }
        due.is("torn(): it is not of lay()", x.torn(), 0);
    }

    private static SpoonHates withFullSheet() {
        SpoonHates x = Due.told("sullen;sullen;both0 1 9;pot99 12;");
        int[] cells = new int[40];
        for (int i = 1; i < 40; i += 2) {
            cells[i] = 1;
        }
        Due.lay(x, 0, 1, cells);
        return x;
    }

    private static void readFromTheFirstToTheLastCell() {
        for (int f : new int[] {0, 1, 37, 38}) {
            SpoonHates x = withFullSheet();
            due.is("read(0, 1, " + f + ", 1)", x.read(0, 1, f, 1), 1);
            due.is("torn()", x.torn(), 0);
            due.is("rule(3)", x.rule(3), 1);
        }
        for (int f : new int[] {-2, -1, 39, 40, 41, ENDS[0], ENDS[1], ENDS[2], ENDS[3]}) {
            for (int n = 1; n <= 12; n += 11) {
                SpoonHates x = withFullSheet();
                due.is("read(0, 1, " + f + ", " + n + ")", x.read(0, 1, f, n), 0);
                due.is("torn() of " + f, x.torn(), 2);
                due.is("rule(3)", x.rule(3), 0);
            }
        }
    }

    private static void readFrom0To12() {
        int done = 0;
        for (int n = 0; n <= 12; n++) {
            SpoonHates x = withFullSheet();
            due.is("read(0, 1, 0, " + n + ")", x.read(0, 1, 0, n), n);
            due.is("rule(3)", x.rule(3), n);
            due.is("rule(4)", x.rule(4), done);
            due.is("torn()", x.torn(), 0);
            due.is("read(0, 1, 0, -1)", x.read(0, 1, 0, -1), -1);
            due.is("read(0, 1, 0, 13)", x.read(0, 1, 0, 13), -1);
            // the 12 - n steps that are left, and one more
            due.is("read(0, 1, 0, " + (13 - n) + ")", x.read(0, 1, 0, 13 - n), n == 0 ? -1 : -20 - (12 - n));
            due.is("rule(3)", x.rule(3), n);
            done += 8 - n / 2;
        }
        SpoonHates x = withFullSheet();
        due.is("read(0, 1, 16, 12): up to the last cell", x.read(0, 1, 16, 12), 12);
        due.is("torn()", x.torn(), 0);
    }

    private static void readOfNone() {
        SpoonHates x = Due.told("plain;plain;both0 1 9;");
        Due.lay(x, 1, 1, 0, 1);
        x.sheet(2, 2, 0);
        for (int k = 0; k < 4; k++) {
            for (int lane = 0; lane < 3; lane++) {
                for (int f : new int[] {-1, 0, 2, Integer.MIN_VALUE, Integer.MAX_VALUE}) {
                    x.read(0, 0, 0, 1);
                    due.is("torn() ahead", x.torn(), 1);
                    due.is("read(" + k + ", " + lane + ", " + f + ", 0)", x.read(k, lane, f, 0), 0);
                    due.is("torn(): no FAULT", x.torn(), 0);
                }
            }
        }
        due.is("rule(3)", x.rule(3), 0);
        due.is("read(4, 0, 0, 0)", x.read(4, 0, 0, 0), -1);
        due.is("read(0, 3, 0, 0)", x.read(0, 3, 0, 0), -1);
        due.is("stirred at noon", x.set(1, 1) + x.stir(0, 1), 8 + 9);
        due.is("read(1, 1, 0, 0) at noon", x.read(1, 1, 0, 0), 0);
    }

    private static void readTornOnTheWay() {
        for (int cells = 0; cells <= 9; cells++) {
            SpoonHates x = Due.told("plain;plain;both0 1 9;pot99 12;");
            int[] row = {0, 1, 0, 1, 0, 1, 0, 1, 0};
            Due.lay(x, 0, 2, Arrays.copyOf(row, cells));
            int whole = cells / 2;
            int[] done = {0, 9, 17, 24, 30};
            due.is("read(0, 2, 0, " + (whole + 1) + ") of " + cells, x.read(0, 2, 0, whole + 1), whole);
            due.is("torn()", x.torn(), 2);
            due.is("rule(3): those that were whole ahead were", x.rule(3), whole);
            due.is("rule(4)", x.rule(4), done[whole]);
            due.is("count(0)", x.count(0), 18 - 2 * whole);
            due.is("read(0, 2, 0, " + whole + ") of " + cells, x.read(0, 2, 0, whole), whole);
            due.is("torn()", x.torn(), 0);
        }
    }

    private static void readFaultsByRank() {
        SpoonHates x = Due.told("plain;plain;both0 1 9;");
        due.is("read(0, 0, -1, 1): NULL ahead of INDEX", x.read(0, 0, -1, 1), 0);
        due.is("torn()", x.torn(), 1);
        Due.lay(x, 0, 1, 0, 1);
        for (int made = 0; made < 3; made++) {
            x.sheet(1, made, 2);
            for (int lane = 0; lane < 3; lane++) {
                due.is("read(1, " + lane + ", 9, 1) of lane " + made, x.read(1, lane, 9, 1), 0);
                due.is("torn(): CAST ahead of INDEX", x.torn(), made == lane ? 2 : 3);
                due.is("read(0, " + lane + ", 0, 1)", x.read(0, lane, 0, 1), lane == 1 ? 1 : 0);
                due.is("torn() of lane 1 as of " + lane, x.torn(), lane == 1 ? 0 : 3);
            }
            x.sheet(1, made, 0);
            int other = (made + 1) % 3;
            due.is("read(1, " + other + ", 0, 1) of no cells", x.read(1, other, 0, 1), 0);
            due.is("torn(): CAST of no cells", x.torn(), 3);
        }
    }

    private static void readRefused() {
        for (int i = 0; i < 12; i++) {
            SpoonHates x = withFullSheet();
            x.lay(0, 2 * i, 1);
            x.read(1, 0, 0, 1);
            due.is("read(0, 1, 0, 12): the " + i + "th is alike", x.read(0, 1, 0, 12), -20 - i);
            due.is("rule(3): none was", x.rule(3), 0);
            due.is("rule(4): none was", x.rule(4), 0);
            due.is("count(0): none was", x.count(0), 18);
            due.is("torn(): it is left", x.torn(), 1);
            due.is("read(0, 1, 0, " + i + "): those ahead", x.read(0, 1, 0, i), i);
            due.is("torn()", x.torn(), 0);
        }
        // the first met: the tear ahead of the refused one, or behind it
        SpoonHates x = Due.told("plain;plain;both0 1 9;pot99 2;");
        Due.lay(x, 0, 0, 0, 1, 0, 2, 0);
        due.is("read(0, 0, 0, 3): refused ahead of the tear", x.read(0, 0, 0, 3), -21);
        due.is("read(0, 0, 4, 1): torn, not refused", x.read(0, 0, 4, 1), 0);
        due.is("torn()", x.torn(), 2);
        for (int v : new int[] {2, 5, 127, -1, -128}) {
            x.lay(0, 3, v);
            due.is("read(0, 0, 0, 2): no helper " + v, x.read(0, 0, 0, 2), -21);
            due.is("rule(3)", x.rule(3), 0);
        }
        x.lay(0, 3, 1);
        due.is("read(0, 0, 0, 2): up to noon", x.read(0, 0, 0, 2), 2);
        due.is("read(0, 0, 0, 1) at noon", x.read(0, 0, 0, 1), -20);
        due.is("read(0, 0, 4, 1) at noon: torn ahead", x.read(0, 0, 4, 1), 0);
        SpoonHates sets = Due.told("plain;plain;plain;both0 1 9;");
        Due.lay(sets, 0, 0, 0, 2, 0, 1);
        due.is("read(0, 0, 0, 2): it sets", sets.read(0, 0, 0, 2), -21);
        due.is("rule(5): none was", sets.rule(5), 0);
        due.is("read(0, 0, 0, 1)", sets.read(0, 0, 0, 1), 1);
        due.is("rule(5)", sets.rule(5), 1);
        due.is("read(0, 0, 2, 1), the pot set", sets.read(0, 0, 2, 1), -20);
    }

    /** A step that was read is stirred as by stir(): in its order, by all kinds. */
    private static void readIsAsByStir() {
        for (int lane = 0; lane < 3; lane++) {
            String text = "plain;sullen;nun;brother;plain;both1 3 9;both0 4 7;both2 3 6;both1 4 5;";
            int[] cells = {3, 1, 0, 4, 2, 3, 1, 3, 4, 1};
            SpoonHates x = Due.told(text);
            SpoonHates y = Due.told(text);
            Due.lay(x, 3, lane, cells);
            due.is("read(3, " + lane + ", 0, 5)", x.read(3, lane, 0, 5), 5);
            for (int i = 0; i < cells.length; i += 2) {
                y.stir(cells[i], cells[i + 1]);
            }
            due.is("as by stir()", Due.state(x).equals(Due.state(y)) ? 1 : 0, 1);
        }
    }

    private static void tornIsOfTheLatestRead() {
        SpoonHates x = Due.told("plain;plain;both0 1 9;pot99 12;");
        due.is("torn() of a new object", x.torn(), 0);
        Due.lay(x, 0, 0, 0, 1, 0, 0);
        x.read(1, 0, 0, 1);
        due.is("torn()", x.torn(), 1);
        int[] refused = {x.read(0, 0, 2, 1), x.read(4, 0, 0, 1), x.read(0, 3, 0, 1), x.read(0, 0, 0, 13),
            x.read(0, 0, 0, -1), x.lay(1, 0, 0), x.lay(0, 4, 0), x.sheet(0, 0, -1)};
        due.is("all are refused", Arrays.equals(refused, new int[] {-20, -1, -1, -1, -1, -11, -12, -14}) ? 1 : 0, 1);
        due.is("torn() is left", x.torn(), 1);
        x.read(0, 0, 3, 1);
        due.is("torn()", x.torn(), 2);
        x.read(0, 1, 3, 1);
        due.is("torn()", x.torn(), 3);
        x.keep(0);
        x.back(0);
        Due.feedAll(x, "plain;plain;both0 1 9;");
        x.text();
        due.is("torn() is left by images and texts", x.torn(), 3);
        due.is("the sheet is left by texts", x.read(0, 0, 0, 1), 1);
        due.is("torn()", x.torn(), 0);
    }

    private static void counts() {
        SpoonHates x = new SpoonHates();
        int[] none = {0, 0, 0, 0, -4};
        for (int what = 0; what < 5; what++) {
            due.is("count(" + what + ") of a new object", x.count(what), none[what]);
        }
        for (int what : new int[] {-1, 5, Integer.MIN_VALUE, Integer.MAX_VALUE}) {
            due.is("count(" + what + ")", x.count(what), -1);
        }
        SpoonHates full = Due.haters(5);
        due.is("count(0): all there can be", full.count(0), 180);
        for (int i = 1; i <= 6; i++) {
            full.see(0, 0);
            due.is("count(1)", full.count(1), i);
        }
        full.keep(1);
        due.is("count(2)", full.count(2), 1);
        full.keep(0);
        due.is("count(2)", full.count(2), 2);
        for (int i = 1; i <= 160; i++) {
            full.feed(32);
        }
        due.is("count(3)", full.count(3), 160);
        full.feed(32);
        due.is("count(3)", full.count(3), 160);
        full.sheet(1, 0, 40);
        due.is("count(4): of SHEET 0 alone", full.count(4), -4);
        full.sheet(0, 0, 0);
        due.is("count(4): no cells are not nothing", full.count(4), 0);
        full.sheet(0, 0, 40);
        due.is("count(4)", full.count(4), 40);
    }
}
