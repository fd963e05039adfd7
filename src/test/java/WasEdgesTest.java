/** Promises 30 to 33, at their edges: each method is a sentence of the document. */
public final class WasEdgesTest {
    private static final Due due = new Due("WasEdgesTest");
    private static final String FIVE = "plain;plain;plain;plain;plain;";

    public static void main(String[] args) {
        sees6();
        forgetKeepsTheFirst();
        fitsOfNothingSeen();
        fitsEachTurnBehindEachStep();
        fitsAllThatWasSeen();
        fitsLeastAndGreatest();
        fitsByStepAsItIs();
        fitsNoonAside();
        fitsOfASetPot();
        forgaveJustThat();
        forgaveOfNobody();
        due.close();
    }

    private static void sees6() {
        SpoonHates x = new SpoonHates();
        for (int n = -1; n <= 10; n++) {
            boolean isTold = n >= 0 && n <= 9;
            due.is("see(" + n + ", 0)", x.see(n, 0), isTold ? 1 : -1);
            x.forget(0);
        }
        for (int v = -1; v <= 19; v++) {
            boolean isTold = v >= 0 && v <= 18;
            due.is("see(0, " + v + ")", x.see(0, v), isTold ? 1 : -1);
            x.forget(0);
        }
        for (int i = 1; i <= 6; i++) {
            due.is("see(9, 18)", x.see(9, 18), i);
            due.is("count(1)", x.count(1), i);
        }
        due.is("see(9, 18), the 7th", x.see(9, 18), -3);
        due.is("see(10, 18), the 7th: BAD ahead of FULL", x.see(10, 18), -1);
        due.is("see(9, 19), the 7th: BAD ahead of FULL", x.see(9, 19), -1);
        due.is("count(1)", x.count(1), 6);
        due.is("forget(5)", x.forget(5), 6);
        due.is("see(0, 0), the 6th again", x.see(0, 0), 6);
        due.is("see(0, 0), the 7th", x.see(0, 0), -3);
    }

    private static void forgetKeepsTheFirst() {
        for (int n = 0; n <= 6; n++) {
            SpoonHates x = Due.told("plain;plain;");
            for (int i = 1; i <= 6; i++) {
                x.see(10 - i, 0);
            }
            due.is("forget(7)", x.forget(7), -1);
            due.is("forget(-1)", x.forget(-1), -1);
            due.is("forget(" + n + ")", x.forget(n), 6);
            due.is("forget(" + (n + 1) + ")", x.forget(n + 1), -1);
            due.is("count(1)", x.count(1), n);
            due.is("forget(" + n + ") again", x.forget(n), n);
            // TURN is 0 behind 10 - n steps: the lesser HATRED is 10 - n at most
            int many = 100 - Math.max(0, n - 1) * Math.max(0, n - 1);
            due.is("fits(0, 1, 0) of the first " + n, x.fits(0, 1, 0), many);
        }
    }

    private static void fits(String name, SpoonHates x, int a, int b, int many, int least, int greatest) {
        due.is(name + ": fits(" + a + ", " + b + ", 0)", x.fits(a, b, 0), many);
        due.is(name + ": fits(" + a + ", " + b + ", 1)", x.fits(a, b, 1), least);
        due.is(name + ": fits(" + a + ", " + b + ", 2)", x.fits(a, b, 2), greatest);
    }

    private static void fitsOfNothingSeen() {
        SpoonHates x = Due.told("plain;sullen;nun;brother;nun;hate0 1 5;");
        for (int pair = 0; pair < 25; pair++) {
            boolean areTwo = pair % 6 != 0;
            fits("nothing seen", x, pair / 5, pair % 5, areTwo ? 100 : -1, areTwo ? 0 : -1, areTwo ? 99 : -1);
        }
        due.is("fits(0, 1, 3)", x.fits(0, 1, 3), -1);
        due.is("fits(0, 1, -1)", x.fits(0, 1, -1), -1);
        due.is("fits(0, 5, 0)", x.fits(0, 5, 0), -1);
        due.is("fits(5, 0, 0)", x.fits(5, 0, 0), -1);
    }

    /** Two plain ones, and two brothers: by the lesser HATRED alone. */
    private static void fitsEachTurnBehindEachStep() {
        for (int n = 0; n <= 9; n++) {
            SpoonHates x = Due.told("plain;plain;brother;brother;");
            for (int v = 0; v <= 18; v++) {
                x.see(n, v);
                int plain = 0;
                int brothers = 0;
                for (int hatreds = 0; hatreds < 100; hatreds++) {
                    int lesser = Math.min(hatreds / 10, hatreds % 10);
                    plain += Math.max(0, lesser - n) == v ? 1 : 0;
                    brothers += 2 * Math.max(0, lesser - 2 * n) == v ? 1 : 0;
                }
                due.is("fits(0, 1, 0) of " + v + " behind " + n, x.fits(0, 1, 0), plain);
                due.is("fits(2, 3, 0) of " + v + " behind " + n, x.fits(2, 3, 0), brothers);
                x.forget(0);
            }
        }
    }

    private static void fitsAllThatWasSeen() {
        SpoonHates x = Due.told("plain;plain;");
        int[][] seen = {{0, 7}, {1, 6}, {2, 5}, {3, 4}, {4, 3}, {9, 0}};
        for (int[] s : seen) {
            x.see(s[0], s[1]);
            fits("TURN is 7", x, 0, 1, 5, 77, 97);
        }
        for (int i = 0; i < 6; i++) {
            x.forget(0);
            for (int k = 0; k < 6; k++) {
                x.see(seen[k][0], k == i ? seen[k][1] + 1 : seen[k][1]);
            }
            fits("the " + i + "th is another", x, 0, 1, 0, -4, -4);
        }
        x.forget(0);
        x.see(0, 7);
        x.see(0, 8);
        fits("two that speak against each other", x, 0, 1, 0, -4, -4);
    }

    private static void fitsLeastAndGreatest() {
        SpoonHates x = Due.told("plain;nun;sullen;");
        x.see(0, 0);
        fits("TURN 0", x, 0, 1, 19, 0, 90);
        fits("TURN 0, turned round", x, 1, 0, 19, 0, 90);
        fits("TURN 0 of a sullen one", x, 2, 0, 28, 0, 90);
        fits("TURN 0 of a sullen one, turned round", x, 0, 2, 28, 0, 91);
        x.forget(0);
        x.see(0, 9);
        fits("TURN 9 with a nun", x, 0, 1, 0, -4, -4);
        x.forget(0);
        x.see(0, 8);
        fits("TURN 8 with a sullen one", x, 0, 2, 2, 89, 99);
        fits("TURN 8 with a sullen one, turned round", x, 2, 0, 2, 98, 99);
        due.is("hatred(0, 2, 0): nothing is changed", x.hatred(0, 2, 0), 0);
    }

    private static void fitsByStepAsItIs() {
        for (int step = 0; step < 4; step++) {
            SpoonHates x = Due.told("sullen;sullen;plain;plain;both2 3 9;");
            for (int i = 0; i < step; i++) {
                x.stir(2, 3);
            }
            x.see(1, 8);
            boolean isOdd = step % 2 == 1;
            fits("8 behind 1 from STEP " + step, x, 0, 1, isOdd ? 0 : 1, isOdd ? -4 : 99, isOdd ? -4 : 99);
            x.forget(0);
            x.see(2, 7);
            fits("7 behind 2 from STEP " + step, x, 0, 1, 1, 99, 99);
        }
    }

    private static void fitsNoonAside() {
        SpoonHates x = Due.told("plain;plain;both0 1 9;pot9 1;");
        x.see(9, 0);
        x.see(8, 1);
        fits("noon behind 1", x, 0, 1, 1, 99, 99);
        x.stir(0, 1);
        fits("at noon", x, 0, 1, 1, 99, 99);
    }

    private static void fitsOfASetPot() {
        SpoonHates x = Due.told("plain;plain;plain;");
        x.see(0, 5);
        x.see(9, 5);
        fits("not set", x, 0, 1, 0, -4, -4);
        x.stir(0, 2);
        fits("set: nobody stirs, TURN stays", x, 0, 1, 9, 55, 95);
        x.forget(1);
        x.see(1, 4);
        fits("set: TURN does not sink", x, 0, 1, 0, -4, -4);
        SpoonHates y = Due.told("plain;plain;");
        y.see(0, 0);
        y.see(9, 0);
        fits("two of 0 set it: TURN stays 0", y, 0, 1, 19, 0, 90);
    }

    private static void forgaveJustThat() {
        SpoonHates x = Due.told(FIVE + "both0 1 5;both2 3 4;plan0 1;plan2 3;");
        int[] bits = {0, 0, 0, 0, 3, 12, 0, 0, 0, 16, 0};
        for (int v = 0; v <= 10; v++) {
            due.is("forgave(" + v + ")", x.forgave(v), bits[v]);
        }
        due.is("forgave(999)", x.forgave(999), 0);
        due.is("forgave(1000)", x.forgave(1000), -1);
        due.is("forgave(-1)", x.forgave(-1), -1);
        due.is("count(0): nothing is changed", x.count(0), 18);
        x.stir(0, 1);
        due.is("forgave(8): 5 done, 4 less", x.forgave(8), 0);
        due.is("forgave(9): 5 done, 4 of one pair", x.forgave(9), 15);
        due.is("forgave(13)", x.forgave(13), 16);
        x.hate(1, 0, 0);
        // who is forgiven hates on or not: of 1 and 0 both at 0 it sets
        due.is("forgave(5): it sets", x.forgave(5), 1 + 4 + 8);
        due.is("forgave(9): one still hates", x.forgave(9), 2 + 16);
    }

    private static void forgaveOfNobody() {
        SpoonHates nobody = new SpoonHates();
        due.is("forgave(0) of nobody", nobody.forgave(0), 0);
        due.is("forgave(1000) of nobody", nobody.forgave(1000), -1);
        SpoonHates all = Due.told(FIVE);
        due.is("forgave(0) without a plan", all.forgave(0), 31);
        due.is("forgave(1) without a plan", all.forgave(1), 0);
        all.stir(0, 1);
        due.is("forgave(0), the pot set", all.forgave(0), 31);
        SpoonHates noon = Due.told("plain;plain;both0 1 9;plan0 1;pot9 1;");
        noon.stir(0, 1);
        due.is("forgave(9) at noon", noon.forgave(9), 3);
    }
}
