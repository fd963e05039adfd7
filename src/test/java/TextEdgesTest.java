import java.util.HashSet;
import java.util.List;
import java.util.Set;

/** Promises 1 to 10 and the terms they stand on, at their edges: each method is a sentence of the document. */
public final class TextEdgesTest {
    private static final Due due = new Due("TextEdgesTest");
    private static final String FIVE = "nun;nun;nun;nun;nun;";

    public static void main(String[] args) {
        newObjectHasNobody();
        newObjectHasSheetsOfNothing();
        everyByteIsTaken();
        tapeHas160Bytes();
        endKeepsTheFirst();
        textEmptiesTheTape();
        byteAlone();
        byteBehindName();
        byteBehindNumber();
        byteBehindSemicolon();
        numbersHaveOneOrTwoFigures();
        namesAreAsLongAsMayBe();
        blanksAsManyAsWanted();
        linesCutShort();
        helpersOfLines();
        hatredOfLines();
        causeOfSlip();
        needAndNoonOfPot();
        alikeHelpers();
        hatredToldAlready();
        hatredToldAlreadyIsMetAtOnce();
        potForTheSecondTime();
        sixthHelper();
        seventhSlip();
        ninthPlan();
        helperThatThereIsNot();
        helperThatThereIsNotComesBehindAll();
        placesAtTheTapesEnd();
        mostLines();
        emptyTextTellsAll();
        faultIsOfTheLatestText();
        feelings();
        usedSlipsAreBits();
        allHatredsHaveTheirPlaces();
        allSlipsAndPlansHaveTheirPlaces();
        theCallNumber512();
        due.close();
    }

    private static void reads(String text, int lines) {
        SpoonHates x = new SpoonHates();
        Due.feedAll(x, text);
        due.is("text() of '" + text + "'", x.text(), lines);
        due.is("fault() of '" + text + "'", x.fault(), 0);
    }

    private static void refuses(String text, int fault, int place) {
        SpoonHates x = new SpoonHates();
        Due.feedAll(x, text);
        due.is("text() of '" + text + "'", x.text(), -10 - place);
        due.is("fault() of '" + text + "'", x.fault(), fault);
    }

    private static void newObjectHasNobody() {
        SpoonHates x = new SpoonHates();
        for (int a = 0; a < 5; a++) {
            due.is("new: helper(" + a + ")", x.helper(a), -1);
            for (int b = 0; b < 5; b++) {
                due.is("new: hatred(" + a + ", " + b + ", 0)", x.hatred(a, b, 0), -1);
            }
        }
        int[] rules = {0, 20, 8, 0, 0, 0, 0, 0, 0};
        for (int what = 0; what < rules.length; what++) {
            due.is("new: rule(" + what + ")", x.rule(what), rules[what]);
        }
        for (int n = 0; n <= 4; n++) {
            due.is("new: best(" + n + ", 0)", x.best(n, 0), 0);
            due.is("new: best(" + n + ", 1)", x.best(n, 1), 0);
            due.is("new: best(" + n + ", 10)", x.best(n, 10), -4);
        }
        due.is("new: match(0)", x.match(0), 0);
        due.is("new: runs(4)", x.runs(4), -4);
        due.is("new: keep(0)", x.keep(0), 0);
        due.is("new: keep(1)", x.keep(1), 0);
        due.is("new: text()", x.text(), 0);
    }

    private static void newObjectHasSheetsOfNothing() {
        SpoonHates x = new SpoonHates();
        for (int k = 0; k < 4; k++) {
            due.is("new: lay(" + k + ", 0, 0)", x.lay(k, 0, 0), -11);
            for (int lane = 0; lane < 3; lane++) {
                due.is("new: torn()", x.torn(), 0);
                due.is("new: read(" + k + ", " + lane + ", 0, 1)", x.read(k, lane, 0, 1), 0);
                due.is("new: torn() of a sheet of nothing", x.torn(), 1);
                due.is("new: read(" + k + ", " + lane + ", 0, 0)", x.read(k, lane, 0, 0), 0);
            }
        }
        due.is("new: count(4)", x.count(4), -4);
    }

    private static void everyByteIsTaken() {
        SpoonHates x = new SpoonHates();
        for (int c = 0; c <= 127; c++) {
            due.is("feed(" + c + ")", x.feed(c), c + 1);
        }
        due.is("feed(128)", x.feed(128), -1);
        due.is("feed(-1)", x.feed(-1), -1);
        due.is("count(3)", x.count(3), 128);
    }

    private static void tapeHas160Bytes() {
        SpoonHates x = new SpoonHates();
        for (int i = 1; i <= 160; i++) {
            due.is("feed(32)", x.feed(32), i);
        }
        due.is("feed(32), the 161st", x.feed(32), -3);
        due.is("count(3)", x.count(3), 160);
        due.is("end(159)", x.end(159), 160);
        due.is("feed(32), the 160th again", x.feed(32), 160);
        due.is("feed(32), the 161st again", x.feed(32), -3);
        due.is("text()", x.text(), 0);
        due.is("feed(32) behind text()", x.feed(32), 1);
    }

    private static void endKeepsTheFirst() {
        String text = "nun;pot9 2;plain;";
        int[] lines = new int[text.length() + 1];
        for (int n = 1; n <= text.length(); n++) {
            lines[n] = lines[n - 1] + (text.charAt(n - 1) == ';' ? 1 : 0);
        }
        for (int n = 0; n <= text.length(); n++) {
            SpoonHates x = new SpoonHates();
            Due.feedAll(x, text);
            due.is("end(" + (text.length() + 1) + ")", x.end(text.length() + 1), -1);
            due.is("end(-1)", x.end(-1), -1);
            due.is("end(" + n + ")", x.end(n), text.length());
            due.is("count(3)", x.count(3), n);
            due.is("end(" + (n + 1) + "): it has not so many now", x.end(n + 1), -1);
            due.is("end(" + n + ") again", x.end(n), n);
            boolean isWhole = n == 0 || text.charAt(n - 1) == ';';
            int got = x.text();
            due.is("text() of the first " + n, isWhole ? got : got < -9 ? 1 : 0, isWhole ? lines[n] : 1);
        }
        SpoonHates x = new SpoonHates();
        due.is("end(0) of no tape", x.end(0), 0);
        due.is("end(1) of no tape", x.end(1), -1);
    }

    private static void textEmptiesTheTape() {
        SpoonHates x = new SpoonHates();
        for (String text : new String[] {"nun;", "nun", "?", "plan 0 1;", ""}) {
            Due.feedAll(x, text);
            due.is("count(3) ahead of text()", x.count(3), text.length());
            x.text();
            due.is("count(3) behind text() of '" + text + "'", x.count(3), 0);
        }
    }

    private static boolean isLetter(char c) {
        return c >= 'a' && c <= 'z';
    }

    private static boolean isFigure(char c) {
        return c >= '0' && c <= '9';
    }

    private static void byteAlone() {
        for (char c = 0; c <= 127; c++) {
            if (c == ' ') {
                reads("" + c, 0);
            } else {
                boolean isToken = isLetter(c) || isFigure(c) || c == ';';
                refuses("" + c, isToken ? 2 : 1, 0);
            }
        }
    }

    private static void byteBehindName() {
        for (char c = 0; c <= 127; c++) {
            if (c == ';') {
                reads("nun" + c, 1);
            } else if (isLetter(c)) {
                refuses("nun" + c, 2, 0);
            } else if (c == ' ') {
                refuses("nun" + c, 2, 4);
            } else {
                refuses("nun" + c, isFigure(c) ? 2 : 1, 3);
            }
        }
    }

    private static void byteBehindNumber() {
        for (char c = 0; c <= 127; c++) {
            if (isFigure(c) || c == ' ') {
                refuses("pot1" + c, 2, 5);
            } else {
                refuses("pot1" + c, isLetter(c) || c == ';' ? 2 : 1, 4);
            }
        }
    }

    private static void byteBehindSemicolon() {
        for (char c = 0; c <= 127; c++) {
            if (c == ' ') {
                reads("nun;" + c, 1);
            } else {
                refuses("nun;" + c, isLetter(c) || isFigure(c) || c == ';' ? 2 : 1, 4);
            }
        }
    }

    private static void numbersHaveOneOrTwoFigures() {
        reads("pot1 1;", 1);
        reads("pot01 01;", 1);
        reads("pot99 12;", 1);
        refuses("pot00 1;", 3, 3);
        refuses("pot001 1;", 1, 3);
        refuses("pot100 1;", 1, 3);
        refuses("pot1 012;", 1, 5);
        refuses("pot0000000000000000000000000001 1;", 1, 3);
        refuses("pot  4294967297 1;", 1, 5);
        // too long is met ahead of what can not stand there
        refuses("12", 2, 0);
        refuses("123", 1, 0);
        refuses("nun12;", 2, 3);
        refuses("nun 123;", 1, 4);
        refuses("pot1 1 23;", 2, 7);
        refuses("pot1 1 234;", 1, 7);
        reads(FIVE + "hate00 04 09;", 6);
        refuses(FIVE + "hate00 004 09;", 1, 27);
        SpoonHates x = Due.told("pot 09 08;");
        due.is("09 is 9", x.rule(1), 9);
        due.is("08 is 8", x.rule(2), 8);
    }

    private static void namesAreAsLongAsMayBe() {
        for (String kind : Due.KINDS) {
            reads(kind + ";", 1);
            refuses(kind + kind + ";", 2, 0);
            refuses(kind + "pot1 1;", 2, 0);
            refuses(kind.substring(1) + ";", 2, 0);
            refuses("a".repeat(160), 2, 0);
        }
        for (String name : new String[] {"hate", "both", "slip", "plan", "pot"}) {
            refuses(name + "s0 1 1;", 2, 0);
            refuses(name.substring(0, name.length() - 1) + "0 1 1;", 2, 0);
        }
    }

    private static void blanksAsManyAsWanted() {
        String[] tokens = {"nun", ";", "nun", ";", "both", "0", "1", "9", ";", "pot", "9", "9", ";"};
        for (int many : new int[] {1, 2, 9}) {
            StringBuilder text = new StringBuilder();
            for (String token : tokens) {
                text.append(" ".repeat(many)).append(token);
            }
            reads(text + " ".repeat(many), 4);
        }
        reads("nun;nun;both0 1 9;pot9 9;", 4);
        reads(" ".repeat(160), 0);
        reads("nun" + " ".repeat(156) + ";", 1);
        reads(" ".repeat(156) + "nun;", 1);
        refuses("both0 1" + "9;", 3, 6);
        refuses("pot 9" + "9;", 2, 6);
    }

    /** Each line, cut behind each of its bytes: the end, at the length, is what can not stand there. */
    private static void linesCutShort() {
        String[] lines = {"plain;", "sullen;", "nun;", "brother;", "hate 0 1 9;", "both 4 3 0;", "pot 11 12;",
            "slip 0 1 9;", "plan 3 2;"};
        for (String line : lines) {
            int name = line.indexOf(line.contains(" ") ? ' ' : ';');
            String ahead = line.contains(" ") ? FIVE : "";
            for (int n = 1; n < line.length(); n++) {
                refuses(ahead + line.substring(0, n), 2, ahead.length() + (n < name ? 0 : n));
            }
            reads(ahead + line, ahead.isEmpty() ? 1 : 6);
        }
    }

    /** A HELPER (0 to 4), each of two figures too. */
    private static void helpersOfLines() {
        String[] heads = {"hate", "both", "slip", "plan"};
        for (String head : heads) {
            String tail = head.equals("plan") ? ";" : " 1;";
            for (int v = 0; v <= 99; v++) {
                String first = FIVE + head + v + (v == 0 ? " 1" : " 0") + tail;
                String second = FIVE + head + (v == 0 ? "1 " : "0 ") + v + tail;
                if (v <= 4) {
                    reads(first, 6);
                    reads(second, 6);
                } else {
                    refuses(first, 3, 24);
                    refuses(second, 3, 26);
                }
            }
        }
    }

    private static void hatredOfLines() {
        for (String head : new String[] {"hate", "both"}) {
            for (int v = 0; v <= 99; v++) {
                if (v > 9) {
                    refuses(FIVE + head + "0 1 " + v + ";", 3, 28);
                    continue;
                }
                SpoonHates x = Due.told(FIVE + head + "0 1 " + v + ";");
                due.is(head + ": HATRED", x.hatred(0, 1, 0), v);
                due.is(head + ": HATRED of the other one", x.hatred(1, 0, 0), head.equals("both") ? v : 0);
            }
        }
    }

    private static void causeOfSlip() {
        for (int v = 0; v <= 99; v++) {
            if (v < 1 || v > 9) {
                refuses("slip0 1 " + v + ";", 3, 8);
                continue;
            }
            SpoonHates x = Due.told("nun;nun;slip0 1 " + v + ";");
            due.is("slip(0, 2)", x.slip(0, 2), v);
        }
    }

    private static void needAndNoonOfPot() {
        for (int v = 0; v <= 99; v++) {
            if (v < 1) {
                refuses("pot" + v + " 1;", 3, 3);
            } else {
                due.is("NEED told", Due.told("pot" + v + " 1;").rule(1), v);
            }
            if (v < 1 || v > 12) {
                refuses("pot1 " + v + ";", 3, 5);
            } else {
                due.is("NOON told", Due.told("pot1 " + v + ";").rule(2), v);
            }
        }
    }

    private static void alikeHelpers() {
        for (String head : new String[] {"hate", "both", "slip", "plan"}) {
            for (int a = 0; a <= 4; a++) {
                String tail = head.equals("plan") ? ";" : " 1;";
                refuses(head + a + " " + a + tail, 3, 6);
                refuses(head + a + " 0" + a + tail, 3, 6);
            }
            refuses(head + "5 5 1;", 3, 4);
        }
    }

    private static Set<Integer> toldBy(boolean isBoth, int a, int b) {
        return isBoth ? new HashSet<>(List.of(10 * a + b, 10 * b + a)) : new HashSet<>(List.of(10 * a + b));
    }

    /** All pairs of lines of hatred, over all pairs of helpers. */
    private static void hatredToldAlready() {
        for (int lines = 0; lines < 4; lines++) {
            boolean isBoth = lines % 2 == 1;
            boolean isBothThen = lines / 2 == 1;
            for (int pairs = 0; pairs < 5 * 5 * 5 * 5; pairs++) {
                int a = pairs / 125, b = pairs / 25 % 5, c = pairs / 5 % 5, d = pairs % 5;
                if (a == b || c == d) {
                    continue;
                }
                Set<Integer> both = toldBy(isBoth, a, b);
                both.retainAll(toldBy(isBothThen, c, d));
                String text = FIVE + (isBoth ? "both" : "hate") + a + " " + b + " 1;"
                        + (isBothThen ? "both" : "hate") + c + " " + d + " 2;";
                if (both.isEmpty()) {
                    reads(text, 7);
                } else {
                    refuses(text, 4, 36);
                }
            }
        }
    }

    private static void hatredToldAlreadyIsMetAtOnce() {
        String first = "hate0 1 1;";
        for (String behind : new String[] {" 1;", " 10;", " 100;", "?", "", ";", " nun;"}) {
            refuses(first + "hate0 1" + behind, 4, 16);
            refuses(first + "both1 0" + behind, 4, 16);
        }
        // told as 0 is told, too
        refuses("hate0 1 0;hate0 1 0;", 4, 16);
        refuses("both0 1 0;hate1 0 0;", 4, 16);
        refuses(first + "hate0 0 1;", 3, 16);
        refuses(first + "hate0 5 1;", 3, 16);
        refuses(first + "hate0;", 2, 15);
        // a slip and a plan tell no hatred
        reads(FIVE + "slip0 1 1;slip0 1 1;plan0 1;plan0 1;hate0 1 1;", 10);
    }

    private static void potForTheSecondTime() {
        refuses("pot1 1;pot2 2;", 4, 7);
        refuses("pot1 1;  pot", 4, 9);
        refuses("pot1 1;pot?", 4, 7);
        refuses("pot1 1;pot0 0;", 4, 7);
        refuses("pot1 1;nun;pot1 1;", 4, 11);
        refuses("pot1 1;po1 1;", 2, 7);
    }

    private static void sixthHelper() {
        for (String kind : Due.KINDS) {
            String five = (kind + ";").repeat(5);
            reads(five, 5);
            refuses(five + kind + ";", 5, five.length());
            refuses(five + " " + kind, 5, five.length() + 1);
            refuses(five + kind + "?", 5, five.length());
            refuses(five + kind + "s;", 2, five.length());
        }
        reads(FIVE + "pot1 1;", 6);
        refuses(FIVE + "pot1 1;nun;", 5, 27);
    }

    private static void seventhSlip() {
        String six = "nun;nun;" + "slip0 1 1;".repeat(6);
        reads(six, 8);
        refuses(six + "slip0 1 1;", 5, 68);
        refuses(six + "slip9", 5, 68);
        refuses(six + "slip", 5, 68);
        reads(six + "hate0 1 1;plan0 1;pot1 1;nun;", 12);
    }

    private static void ninthPlan() {
        String eight = "nun;nun;" + "plan0 1;".repeat(8);
        reads(eight, 10);
        refuses(eight + "plan0 1;", 5, 72);
        refuses(eight + "plan9", 5, 72);
        refuses(eight + "plan", 5, 72);
        reads(eight + "hate0 1 1;slip0 1 1;pot1 1;nun;", 14);
    }

    private static void helperThatThereIsNot() {
        for (int helpers = 0; helpers <= 5; helpers++) {
            for (String head : new String[] {"hate", "both", "slip", "plan"}) {
                for (int pair = 0; pair < 25; pair++) {
                    int a = pair / 5, b = pair % 5;
                    if (a == b) {
                        continue;
                    }
                    String text = "nun;".repeat(helpers) + head + a + " " + b + (head.equals("plan") ? ";" : " 1;");
                    if (Math.max(a, b) < helpers) {
                        reads(text, helpers + 1);
                    } else {
                        refuses(text, 6, text.length());
                    }
                }
            }
        }
    }

    private static void helperThatThereIsNotComesBehindAll() {
        refuses("plan0 1;nun;", 6, 12);
        reads("plan0 1;nun;nun;", 3);
        refuses("plan0 1;nun;   ", 6, 15);
        refuses("plan0 1;?", 1, 8);
        refuses("plan0 1;sun;", 2, 8);
        refuses("plan0 1;nun", 2, 11);
        refuses("plan0 1;plan0 0;", 3, 14);
        refuses("hate0 1 1;hate0 1 1;", 4, 16);
        refuses("plan0 1;" + "slip0 1 1;".repeat(7), 5, 68);
    }

    private static void placesAtTheTapesEnd() {
        String blanks = " ".repeat(156);
        refuses(blanks + "nun?", 1, 159);
        refuses(blanks + "nunn", 2, 156);
        refuses(blanks + " nun", 2, 160);
        refuses(blanks + "pot1", 2, 160);
        refuses(blanks + "po1;", 2, 156);
        refuses(blanks + "pot ", 2, 160);
        refuses(blanks + "   9", 2, 159);
        refuses(blanks + " 123", 1, 157);
        refuses(blanks + "   ;", 2, 159);
        refuses("plan0 1;" + " ".repeat(152), 6, 160);
        refuses(" ".repeat(152) + "plan0 1;", 6, 160);
        refuses(" ".repeat(159) + "\u007f", 1, 159);
        refuses("\u0000" + " ".repeat(159), 1, 0);
    }

    /** 160 bytes, without a blank that is not wanted. */
    private static void mostLines() {
        String text = FIVE + "pot1 1;" + "plan0 1;".repeat(8) + "slip0 1 1;".repeat(6);
        reads(text, 20);
        reads(text + " ".repeat(160 - text.length()), 20);
        SpoonHates x = Due.told(text);
        due.is("rule(0)", x.rule(0), 5);
        due.is("rule(6)", x.rule(6), 6);
        due.is("rule(8)", x.rule(8), 8);
    }

    private static void emptyTextTellsAll() {
        for (String text : new String[] {"", "   "}) {
            SpoonHates x = Due.told("nun;nun;both0 1 5;slip0 1 1;plan0 1;pot9 3;");
            x.stir(0, 1);
            x.use(0);
            x.see(0, 0);
            x.keep(0);
            x.keep(1);
            x.sheet(0, 0, 3);
            Due.feedAll(x, text);
            due.is("text() of '" + text + "'", x.text(), 0);
            int[] rules = {0, 20, 8, 0, 0, 0, 0, 0, 0};
            for (int what = 0; what < rules.length; what++) {
                due.is("rule(" + what + ") behind '" + text + "'", x.rule(what), rules[what]);
            }
            due.is("nothing is SEEN", x.count(1), 0);
            due.is("IMAGES are gone", x.count(2), 0);
            due.is("back(0)", x.back(0), -2);
            due.is("back(1)", x.back(1), -2);
            due.is("SHEETS stay", x.count(4), 3);
        }
    }

    private static void faultIsOfTheLatestText() {
        SpoonHates x = new SpoonHates();
        due.is("fault() ahead of a text", x.fault(), 0);
        String[] texts = {"?", "sun;", "pot0 1;", "pot1 1;pot1 1;", FIVE + "nun;", "plan0 1;", "nun;", "?", ""};
        int[] faults = {1, 2, 3, 4, 5, 6, 0, 1, 0};
        for (int i = 0; i < texts.length; i++) {
            Due.feedAll(x, texts[i]);
            due.is("fault() stays till text()", x.fault(), i == 0 ? 0 : faults[i - 1]);
            x.text();
            due.is("fault() of '" + texts[i] + "'", x.fault(), faults[i]);
            due.is("fault() again", x.fault(), faults[i]);
        }
    }

    private static void feelings() {
        int[][] feels = {{0, 1, 2, 3, 4, 5, 6, 7, 8, 9}, {0, 0, 1, 2, 3, 4, 5, 6, 7, 8},
            {0, 1, 2, 3, 3, 3, 3, 3, 3, 3}, {0, 2, 4, 6, 8, 10, 12, 14, 16, 18}};
        for (int kind = 0; kind < 4; kind++) {
            for (int other = 0; other < 4; other++) {
                SpoonHates x = Due.told(Due.KINDS[kind] + ";" + Due.KINDS[other] + ";");
                for (int v = 0; v <= 9; v++) {
                    x.hate(0, 1, v);
                    due.is(Due.KINDS[kind] + " of " + v, x.hatred(0, 1, 0), v);
                    due.is(Due.KINDS[kind] + " FEELS of " + v, x.hatred(0, 1, 1), feels[kind][v]);
                    due.is(Due.KINDS[other] + " FEELS of 0", x.hatred(1, 0, 1), 0);
                }
            }
        }
    }

    private static void usedSlipsAreBits() {
        for (int bits = 0; bits < 64; bits++) {
            SpoonHates x = Due.told("nun;nun;" + "slip0 1 1;".repeat(6));
            for (int i = 5; i >= 0; i--) {
                if ((bits >> i & 1) == 1) {
                    x.use(i);
                }
            }
            due.is("rule(7)", x.rule(7), bits);
            for (int i = 0; i < 6; i++) {
                due.is("slip(" + i + ", 3)", x.slip(i, 3), bits >> i & 1);
            }
            due.is("slip(6, 3)", x.slip(6, 3), -1);
        }
    }

    private static void allHatredsHaveTheirPlaces() {
        SpoonHates x = Due.told("plain;".repeat(5));
        for (int pair = 0; pair < 25; pair++) {
            due.is("HATRED is 0 at first", x.hatred(pair / 5, pair % 5, 0), pair % 6 == 0 ? -1 : 0);
        }
        for (int pair = 0; pair < 25; pair++) {
            due.is("hate", x.hate(pair / 5, pair % 5, pair % 9 + 1), pair % 6 == 0 ? -1 : 0);
        }
        int sum = 0;
        for (int pair = 0; pair < 25; pair++) {
            int want = pair % 6 == 0 ? -1 : pair % 9 + 1;
            due.is("hatred of " + pair, x.hatred(pair / 5, pair % 5, 0), want);
            sum += Math.max(0, want);
        }
        due.is("count(0)", x.count(0), sum);
    }

    private static void allSlipsAndPlansHaveTheirPlaces() {
        String text = "nun;nun;nun;nun;nun;slip0 1 1;slip1 2 2;slip2 3 3;slip3 4 4;slip4 0 8;slip0 2 9;"
                + "plan0 1;plan2 1;plan2 3;plan4 3;plan4 0;plan0 2;plan3 1;plan2 4;";
        SpoonHates x = Due.told(text);
        int[][] slips = {{0, 1, 1}, {1, 2, 2}, {2, 3, 3}, {3, 4, 4}, {4, 0, 8}, {0, 2, 9}};
        for (int i = 0; i < 6; i++) {
            for (int what = 0; what < 3; what++) {
                due.is("slip(" + i + ", " + what + ")", x.slip(i, what), slips[i][what]);
            }
        }
        int[] pairs = {1, 12, 23, 34, 4, 2, 13, 24};
        for (int i = 0; i < 8; i++) {
            due.is("plan(" + i + ")", x.plan(i), pairs[i]);
        }
        due.is("plan(8)", x.plan(8), -1);
    }

    /** An object is used for 512 calls: the last one answers as due. */
    private static void theCallNumber512() {
        SpoonHates x = new SpoonHates();
        Due.feedAll(x, "nun;nun;both0 1 9;");
        x.text();
        x.keep(0);
        for (int i = 20; i < 511; i++) {
            if (i % 2 == 1) {
                due.is("stir(0, 1)", x.stir(0, 1), 3);
            } else {
                due.is("back(0)", x.back(0), 0);
            }
        }
        due.is("the call number 512", x.stir(0, 1), 3);
    }
}
