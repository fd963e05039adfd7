/** Promises 19 to 24, at their edges: each method is a sentence of the document. */
public final class StirEdgesTest {
    private static final Due due = new Due("StirEdgesTest");

    public static void main(String[] args) {
        turnIsTheLesser();
        potSetsIfBothAre0();
        potThatIsSetIsStirredNoMore();
        coolingByKind();
        sullenCoolsIfStepIsOdd();
        stirringCoolsTheTwoAlone();
        stirredTillNoon();
        runsOfNoPlan();
        runsOfAFullPlan();
        runsTillItSets();
        runsTillNoon();
        aheadFrom0To12();
        aheadAsFarAsMayBe();
        lastsByKind();
        lastsNoonAside();
        lastsOfASetPot();
        threeBothWays();
        due.close();
    }

    private static SpoonHates two(int kind, int other, int hatred, int hatredOfOther) {
        SpoonHates x = Due.told(Due.KINDS[kind] + ";" + Due.KINDS[other] + ";plain;both0 2 9;pot99 12;");
        x.hate(0, 1, hatred);
        x.hate(1, 0, hatredOfOther);
        return x;
    }

    private static void turnIsTheLesser() {
        for (int kinds = 0; kinds < 16; kinds++) {
            int kind = kinds / 4, other = kinds % 4;
            SpoonHates x = two(kind, other, 0, 0);
            for (int hatreds = 0; hatreds < 100; hatreds++) {
                x.hate(0, 1, hatreds / 10);
                x.hate(1, 0, hatreds % 10);
                int turn = Math.min(Due.feels(kind, hatreds / 10), Due.feels(other, hatreds % 10));
                due.is("turn(0, 1)", x.turn(0, 1), turn);
                due.is("turn(1, 0)", x.turn(1, 0), turn);
            }
        }
    }

    /** HATRED, not what is felt of it: one who hates is enough, and may turn nothing. */
    private static void potSetsIfBothAre0() {
        for (int kinds = 0; kinds < 16; kinds++) {
            for (int hatreds = 0; hatreds < 4; hatreds++) {
                SpoonHates x = two(kinds / 4, kinds % 4, hatreds / 2, hatreds % 2);
                int turn = x.turn(0, 1);
                due.is("stir(0, 2) first", x.stir(2, 0) > 0 ? 1 : 0, 1);
                int done = x.rule(4);
                due.is("stir(0, 1)", x.stir(0, 1), done + turn);
                due.is("rule(5) of " + hatreds, x.rule(5), hatreds == 0 ? 1 : 0);
                due.is("rule(3): a step, too", x.rule(3), 2);
                due.is("stir(0, 2)", x.stir(0, 2) == -2 ? 1 : 0, hatreds == 0 ? 1 : 0);
            }
        }
    }

    private static void potThatIsSetIsStirredNoMore() {
        SpoonHates x = Due.told("plain;plain;plain;both0 2 9;both1 2 9;pot9 2;plan0 2;plan1 2;");
        due.is("stir(1, 0)", x.stir(1, 0), 0);
        String before = Due.state(x);
        due.keeps("stir(0, 2), the pot set", x, before, x.stir(0, 2), -2);
        due.is("ahead(0, 2, 1)", x.ahead(0, 2, 1), 0);
        due.is("runs(0)", x.runs(0), 0);
        due.is("runs(1)", x.runs(1), 1);
        due.is("runs(2)", x.runs(2), 1);
        due.is("runs(3)", x.runs(3), 36);
        due.is("runs(4)", x.runs(4), 0);
        due.is("turn(0, 2) is as it was", x.turn(0, 2), 9);
        due.is("set(1, 12) helps nothing", x.set(1, 12), 2);
        due.is("stir(0, 2), noon far", x.stir(0, 2), -2);
        due.is("hate(0, 1, 9) helps nothing", x.hate(0, 1, 9) + x.hate(1, 0, 9), 0);
        due.is("stir(0, 1), hating", x.stir(0, 1), -2);
    }

    private static void coolingByKind() {
        int[][] cooled = {{0, 0, 1, 2, 3, 4, 5, 6, 7, 8}, {0, 1, 2, 3, 4, 5, 6, 7, 8, 9},
            {0, 0, 1, 2, 3, 4, 5, 6, 7, 8}, {0, 0, 0, 1, 2, 3, 4, 5, 6, 7}};
        for (int kind = 0; kind < 4; kind++) {
            for (int v = 0; v <= 9; v++) {
                SpoonHates x = two(kind, 0, v, 9);
                x.stir(0, 1);
                due.is(Due.KINDS[kind] + " cools of " + v + " at STEP 0", x.hatred(0, 1, 0), cooled[kind][v]);
                due.is("the plain one cools", x.hatred(1, 0, 0), 8);
                SpoonHates y = two(0, kind, 9, v);
                y.stir(0, 1);
                due.is(Due.KINDS[kind] + ", the second one", y.hatred(1, 0, 0), cooled[kind][v]);
                due.is("the plain one, the first one", y.hatred(0, 1, 0), 8);
                SpoonHates z = two(kind, 0, v, 9);
                z.stir(1, 0);
                due.is(Due.KINDS[kind] + ", told second", z.hatred(0, 1, 0), cooled[kind][v]);
            }
        }
    }

    private static void sullenCoolsIfStepIsOdd() {
        for (int steps = 0; steps < 12; steps++) {
            for (int v = 0; v <= 9; v++) {
                SpoonHates x = Due.told("sullen;brother;plain;nun;both0 1 9;both2 3 9;pot99 12;");
                for (int i = 0; i < steps; i++) {
                    x.hate(2, 3, 9);
                    x.stir(2, 3);
                }
                x.hate(0, 1, v);
                x.stir(0, 1);
                int less = steps % 2 == 1 && v > 0 ? 1 : 0;
                due.is("sullen of " + v + " at STEP " + steps, x.hatred(0, 1, 0), v - less);
                due.is("brother at STEP " + steps, x.hatred(1, 0, 0), 7);
            }
        }
    }

    private static void stirringCoolsTheTwoAlone() {
        for (int pair = 0; pair < 25; pair++) {
            int a = pair / 5, b = pair % 5;
            SpoonHates x = Due.told("plain;".repeat(5));
            for (int p = 0; p < 25; p++) {
                x.hate(p / 5, p % 5, 5);
            }
            due.is("stir(" + a + ", " + b + ")", x.stir(a, b), a == b ? -1 : 5);
            for (int p = 0; p < 25; p++) {
                int c = p / 5, d = p % 5;
                boolean isOfTwo = a != b && (c == a && d == b || c == b && d == a);
                due.is("hatred(" + c + ", " + d + ", 0)", x.hatred(c, d, 0), c == d ? -1 : isOfTwo ? 4 : 5);
            }
        }
    }

    private static void stirredTillNoon() {
        for (int noon = 1; noon <= 12; noon++) {
            SpoonHates x = Due.told("sullen;sullen;plain;both0 1 9;pot1 " + noon + ";");
            int done = 0;
            for (int i = 0; i < noon; i++) {
                done += 8 - i / 2;
                due.is("stir(0, 1), the " + i + "th of " + noon, x.stir(0, 1), done);
            }
            due.is("rule(3)", x.rule(3), noon);
            due.is("rule(5): noon sets no pot", x.rule(5), 0);
            due.is("stir(0, 1) at noon", x.stir(0, 1), -2);
            due.is("stir(0, 2) at noon: it does not set", x.stir(0, 2), -2);
            due.is("rule(5)", x.rule(5), 0);
            due.is("stir(0, 3) at noon: BAD ahead of STATE", x.stir(0, 3), -1);
            due.is("rule(3)", x.rule(3), noon);
        }
    }

    private static void runs(String name, SpoonHates x, int... want) {
        int[] ahead = {x.rule(3), x.rule(4), x.rule(5), x.count(0)};
        for (int what = 0; what < 5; what++) {
            due.is(name + ": runs(" + what + ")", x.runs(what), want[what]);
        }
        due.is(name + ": runs(5)", x.runs(5), -1);
        due.is(name + ": runs(-1)", x.runs(-1), -1);
        due.is(name + ": STEP is as it was", x.rule(3), ahead[0]);
        due.is(name + ": DONE is as it was", x.rule(4), ahead[1]);
        due.is(name + ": THE POT is as it was", x.rule(5), ahead[2]);
        due.is(name + ": HATRED is as it was", x.count(0), ahead[3]);
    }

    private static void runsOfNoPlan() {
        SpoonHates x = Due.told("plain;plain;both0 1 5;pot9 1;");
        runs("no plan", x, 0, 0, 0, 10, -4);
        x.stir(0, 1);
        runs("no plan at noon", x, 5, 1, 0, 8, -4);
        SpoonHates y = Due.told("plain;plain;");
        y.stir(0, 1);
        runs("no plan, set", y, 0, 1, 1, 0, -4);
    }

    /** 9 and 8 and .. and 2 of one pair. */
    private static void runsOfAFullPlan() {
        SpoonHates x = Due.told("plain;plain;both0 1 9;" + "plan0 1;".repeat(8));
        runs("eight of eight", x, 44, 8, 0, 2, -4);
        x.set(1, 7);
        runs("seven of eight", x, 42, 7, 0, 4, 7);
        x.set(1, 12);
        x.stir(0, 1);
        runs("from STEP 1 on: 9, and 8 to 1", x, 45, 9, 0, 0, -4);
        x.stir(0, 1);
        runs("from STEP 2 on: the last sets", x, 45, 10, 1, 0, -4);
        x.stir(0, 1);
        runs("from STEP 3 on: the last but one sets", x, 45, 10, 1, 0, 7);
    }

    private static void runsTillItSets() {
        SpoonHates x = Due.told("plain;plain;plain;both0 1 1;both0 2 9;plan1 2;plan0 1;plan0 2;");
        runs("the first sets", x, 0, 1, 1, 20, 1);
        x.hate(1, 2, 1);
        runs("one who hates: none sets", x, 10, 3, 0, 16, -4);
        x.cut(1);
        x.hate(1, 2, 0);
        runs("the last sets", x, 0, 1, 1, 20, -4);
        x.stir(1, 2);
        runs("it is set", x, 0, 1, 1, 20, 0);
    }

    private static void runsTillNoon() {
        for (int noon = 1; noon <= 12; noon++) {
            SpoonHates x = Due.told("plain;plain;both0 1 9;plan0 1;plan0 1;plan0 1;pot9 " + noon + ";");
            int steps = Math.min(noon, 3);
            int done = steps == 1 ? 9 : steps == 2 ? 17 : 24;
            runs("noon " + noon, x, done, steps, 0, 18 - 2 * steps, noon < 3 ? noon : -4);
        }
    }

    private static void aheadFrom0To12() {
        SpoonHates x = Due.told("sullen;sullen;both0 1 9;pot99 12;");
        int done = 0;
        for (int n = 0; n <= 12; n++) {
            due.is("ahead(0, 1, " + n + ")", x.ahead(0, 1, n), done);
            due.is("ahead(1, 0, " + n + ")", x.ahead(1, 0, n), done);
            done += 8 - n / 2;
        }
        due.is("ahead(0, 1, 13)", x.ahead(0, 1, 13), -1);
        due.is("ahead(0, 1, -1)", x.ahead(0, 1, -1), -1);
        due.is("rule(3): nothing is changed", x.rule(3), 0);
    }

    private static void aheadAsFarAsMayBe() {
        for (int noon = 1; noon <= 12; noon++) {
            SpoonHates x = Due.told("plain;plain;both0 1 3;pot9 " + noon + ";");
            int[] done = {0, 3, 5, 6, 6, 6, 6, 6, 6, 6, 6, 6, 6};
            for (int n = 0; n <= 12; n++) {
                due.is("ahead(0, 1, " + n + "), noon " + noon, x.ahead(0, 1, n), done[Math.min(n, noon)]);
            }
        }
        SpoonHates set = Due.told("plain;plain;plain;both0 1 3;");
        set.stir(1, 2);
        due.is("ahead(0, 1, 12), the pot set", set.ahead(0, 1, 12), 0);
        SpoonHates noon = Due.told("plain;plain;both0 1 3;pot9 1;");
        noon.stir(0, 1);
        due.is("ahead(0, 1, 12) at noon", noon.ahead(0, 1, 12), 3);
        due.is("ahead(0, 1, 0) at noon", noon.ahead(0, 1, 0), 3);
    }

    /** How many steps till one of a kind feels nothing; a sullen one cools at odd steps alone. */
    private static int lastsOne(int kind, int hatred, int step) {
        int sullen = hatred < 2 ? 0 : 2 * (hatred - 1) - step % 2;
        int[] all = {hatred, sullen, hatred, (hatred + 1) / 2};
        return all[kind];
    }

    private static void lastsByKind() {
        for (int kinds = 0; kinds < 16; kinds++) {
            for (int step = 0; step < 2; step++) {
                SpoonHates x = two(kinds / 4, kinds % 4, 0, 0);
                if (step == 1) {
                    x.stir(0, 2);
                }
                for (int hatreds = 0; hatreds < 100; hatreds++) {
                    x.hate(0, 1, hatreds / 10);
                    x.hate(1, 0, hatreds % 10);
                    int one = lastsOne(kinds / 4, hatreds / 10, step);
                    int other = lastsOne(kinds % 4, hatreds % 10, step);
                    due.is("lasts(0, 1) of kinds " + kinds + ", hatreds " + hatreds + ", from STEP " + step,
                            x.lasts(0, 1), Math.min(one, other));
                }
                due.is("nothing is changed", x.rule(3), step);
                due.is("nothing is changed", x.hatred(0, 1, 0), 9);
            }
        }
    }

    private static void lastsNoonAside() {
        for (int noon = 1; noon <= 12; noon++) {
            SpoonHates x = Due.told("sullen;sullen;plain;both0 1 9;both0 2 9;pot9 " + noon + ";");
            due.is("lasts(0, 1), noon " + noon, x.lasts(0, 1), 16);
            for (int i = 0; i < noon; i++) {
                x.stir(0, 2);
            }
            due.is("stir(0, 2) at noon", x.stir(0, 2), -2);
            due.is("lasts(0, 1) at noon " + noon, x.lasts(0, 1), 16 - noon % 2);
        }
    }

    private static void lastsOfASetPot() {
        SpoonHates x = Due.told("plain;plain;plain;both0 1 9;");
        due.is("lasts(0, 1)", x.lasts(0, 1), 9);
        due.is("lasts(0, 2): TURN is 0 at once", x.lasts(0, 2), 0);
        x.hate(0, 2, 9);
        due.is("lasts(0, 2): one alone hates", x.lasts(0, 2), 0);
        x.stir(1, 2);
        due.is("lasts(0, 1), the pot set", x.lasts(0, 1), 0);
        due.is("lasts(1, 1), the pot set", x.lasts(1, 1), -1);
    }

    private static void threeBothWays() {
        for (int ways = 0; ways < 64; ways++) {
            SpoonHates x = Due.told("plain;".repeat(5));
            int[] there = {ways & 3, ways >> 2 & 3, ways >> 4 & 3};
            x.hate(0, 2, there[0]);
            x.hate(2, 4, there[1]);
            x.hate(4, 0, there[2]);
            x.hate(0, 4, 2);
            x.hate(4, 2, 1);
            int least = Math.min(there[0], Math.min(there[1], there[2]));
            due.is("three(0, 2, 4): " + ways, x.three(0, 2, 4), least);
            x.hate(2, 0, 9);
            due.is("three(0, 2, 4), the other way 1: " + ways, x.three(0, 2, 4), Math.max(least, 1));
        }
        SpoonHates y = Due.told("plain;sullen;nun;brother;plain;");
        // 4 feels 7 for 1, 1 feels 8 - 1 for 3, 3 feels twice 4 for 4
        y.hate(4, 1, 7);
        y.hate(1, 3, 8);
        y.hate(3, 4, 4);
        int[][] orders = {{4, 1, 3}, {1, 3, 4}, {3, 4, 1}, {4, 3, 1}, {3, 1, 4}, {1, 4, 3}};
        for (int[] o : orders) {
            due.is("three(" + o[0] + ", " + o[1] + ", " + o[2] + ")", y.three(o[0], o[1], o[2]), 7);
        }
        due.is("three(4, 1, 2)", y.three(4, 1, 2), 0);
        SpoonHates two = Due.told("plain;plain;both0 1 9;");
        due.is("three(0, 1, 2) of two", two.three(0, 1, 2), -1);
    }
}
