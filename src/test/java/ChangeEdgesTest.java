/** Promises 11 to 18, at their edges: each method is a sentence of the document. */
public final class ChangeEdgesTest {
    private static final Due due = new Due("ChangeEdgesTest");
    private static final String FIVE = "nun;nun;nun;nun;nun;";

    public static void main(String[] args) {
        hateIsFrom0To9();
        slipIs9AtMost();
        slipIsUsedOnce();
        tellIsTheGreaterOne();
        forgiveChangesThoseAbove0();
        teachAllKinds();
        needIsFrom1To99();
        noonIsFrom1To12();
        noonIsNotBelowStep();
        planHas8();
        planPairsByNumbers();
        cutKeepsTheFirst();
        due.close();
    }

    private static void hateIsFrom0To9() {
        for (int pair = 0; pair < 25; pair++) {
            int a = pair / 5, b = pair % 5;
            SpoonHates x = Due.told(FIVE);
            for (int v = 0; v <= 9 && a != b; v++) {
                due.is("hate(" + a + ", " + b + ", " + v + ")", x.hate(a, b, v), v == 0 ? 0 : v - 1);
                due.is("hatred(" + a + ", " + b + ", 0)", x.hatred(a, b, 0), v);
                due.is("all HATRED", x.count(0), v);
            }
            if (a != b) {
                due.is("hate(" + a + ", " + b + ", 10)", x.hate(a, b, 10), -1);
                due.is("hate(" + a + ", " + b + ", -1)", x.hate(a, b, -1), -1);
                due.is("hatred(" + a + ", " + b + ", 0)", x.hatred(a, b, 0), 9);
            }
        }
    }

    private static void slipIs9AtMost() {
        for (int cause = 1; cause <= 9; cause++) {
            for (int hatred = 0; hatred <= 9; hatred++) {
                SpoonHates x = Due.told("brother;nun;slip0 1 " + cause + ";");
                x.hate(0, 1, hatred);
                int then = hatred + cause >= 9 ? 9 : hatred + cause;
                due.is("use(0) of " + hatred + " and " + cause, x.use(0), then);
                due.is("hatred(0, 1, 0)", x.hatred(0, 1, 0), then);
                due.is("hatred(1, 0, 0)", x.hatred(1, 0, 0), 0);
            }
        }
    }

    private static void slipIsUsedOnce() {
        SpoonHates x = Due.told(FIVE + "slip0 1 1;slip0 1 1;slip1 0 2;slip4 3 9;slip3 4 1;slip2 4 5;");
        int[] then = {1, 2, 2, 9, 1, 5};
        due.is("use(-1)", x.use(-1), -1);
        due.is("use(6)", x.use(6), -1);
        for (int i = 0; i < 6; i++) {
            due.is("slip(" + i + ", 3)", x.slip(i, 3), 0);
            due.is("use(" + i + ")", x.use(i), then[i]);
            due.is("slip(" + i + ", 3)", x.slip(i, 3), 1);
            due.is("use(" + i + ") again", x.use(i), -2);
            due.is("rule(7)", x.rule(7), (2 << i) - 1);
        }
        due.is("use(6): BAD ahead of STATE", x.use(6), -1);
        SpoonHates y = Due.told(FIVE);
        due.is("use(0) without slips", y.use(0), -1);
        // nobody needs to be able to stir
        SpoonHates z = Due.told("nun;nun;slip0 1 4;");
        z.stir(0, 1);
        due.is("use(0), the pot set", z.use(0), 4);
        due.is("it is set still", z.rule(5), 1);
    }

    private static void tellIsTheGreaterOne() {
        for (int own = 0; own <= 9; own++) {
            SpoonHates x = Due.told("nun;brother;");
            for (int others = 0; others <= 9; others++) {
                x.hate(0, 1, own);
                x.hate(1, 0, others);
                int then = own < others ? others : own;
                due.is("tell(0, 1) of " + own + " and " + others, x.tell(0, 1), then);
                due.is("hatred(0, 1, 0)", x.hatred(0, 1, 0), then);
                due.is("hatred(1, 0, 0)", x.hatred(1, 0, 0), others);
            }
        }
    }

    private static void forgiveChangesThoseAbove0() {
        for (int a = 0; a < 5; a++) {
            for (int bits = 0; bits < 16; bits++) {
                SpoonHates x = Due.told("plain;".repeat(5));
                int many = 0;
                for (int pair = 0; pair < 25; pair++) {
                    x.hate(pair / 5, pair % 5, 1);
                }
                for (int i = 0; i < 4; i++) {
                    int b = i < a ? i : i + 1;
                    x.hate(a, b, bits >> i & 1);
                    many += bits >> i & 1;
                }
                due.is("forgive(" + a + ") of " + bits, x.forgive(a), many);
                due.is("forgive(" + a + ") again", x.forgive(a), 0);
                due.is("that of the other four is left", x.count(0), 16);
                for (int b = 0; b < 5; b++) {
                    due.is("hatred(" + a + ", " + b + ", 0)", x.hatred(a, b, 0), a == b ? -1 : 0);
                    due.is("hatred(" + b + ", " + a + ", 0)", x.hatred(b, a, 0), a == b ? -1 : 1);
                }
            }
        }
        // HATRED is forgiven, not what is felt of it: a sullen one feels nothing of 1
        SpoonHates sullen = Due.told("sullen;nun;brother;hate0 1 1;hate0 2 1;hate1 0 9;");
        due.is("hatred(0, 1, 1)", sullen.hatred(0, 1, 1), 0);
        due.is("forgive(0), sullen", sullen.forgive(0), 2);
        due.is("count(0)", sullen.count(0), 9);
        SpoonHates alone = Due.told("nun;");
        due.is("forgive(0), alone", alone.forgive(0), 0);
        due.is("forgive(1), alone", alone.forgive(1), -1);
    }

    private static void teachAllKinds() {
        for (int kind = 0; kind < 4; kind++) {
            for (int then = 0; then < 4; then++) {
                SpoonHates x = Due.told((Due.KINDS[kind] + ";").repeat(5) + "both4 3 6;");
                due.is("teach(4, " + then + ")", x.teach(4, then), kind);
                due.is("helper(4)", x.helper(4), then);
                due.is("helper(3)", x.helper(3), kind);
                due.is("hatred(4, 3, 1)", x.hatred(4, 3, 1), Due.feels(then, 6));
                due.is("hatred(4, 3, 0)", x.hatred(4, 3, 0), 6);
                due.is("teach(4, 4)", x.teach(4, 4), -1);
                due.is("teach(4, -1)", x.teach(4, -1), -1);
                due.is("teach(5, 0)", x.teach(5, 0), -1);
            }
        }
    }

    private static void needIsFrom1To99() {
        SpoonHates x = new SpoonHates();
        due.is("set(0, 0)", x.set(0, 0), -1);
        int was = 20;
        for (int v = 1; v <= 99; v++) {
            due.is("set(0, " + v + ")", x.set(0, v), was);
            due.is("rule(1)", x.rule(1), v);
            was = v;
        }
        due.is("set(0, 100)", x.set(0, 100), -1);
        due.is("rule(1)", x.rule(1), 99);
        due.is("rule(2)", x.rule(2), 8);
    }

    private static void noonIsFrom1To12() {
        SpoonHates x = new SpoonHates();
        due.is("set(1, 0)", x.set(1, 0), -1);
        int was = 8;
        for (int v = 1; v <= 12; v++) {
            due.is("set(1, " + v + ")", x.set(1, v), was);
            due.is("rule(2)", x.rule(2), v);
            was = v;
        }
        due.is("set(1, 13)", x.set(1, 13), -1);
        due.is("rule(2)", x.rule(2), 12);
        due.is("rule(1)", x.rule(1), 20);
    }

    private static void noonIsNotBelowStep() {
        for (int steps = 0; steps <= 12; steps++) {
            SpoonHates x = Due.told("sullen;sullen;both0 1 9;pot99 12;");
            for (int i = 0; i < steps; i++) {
                x.stir(0, 1);
            }
            due.is("rule(3)", x.rule(3), steps);
            if (steps > 1) {
                due.is("set(1, " + (steps - 1) + "): STEP is " + steps, x.set(1, steps - 1), -2);
                due.is("set(1, 1): STEP is " + steps, x.set(1, 1), -2);
                due.is("rule(2)", x.rule(2), 12);
            }
            if (steps < 12) {
                due.is("set(1, " + (steps + 1) + ")", x.set(1, steps + 1), 12);
                due.is("stir(0, 1), once more", x.stir(0, 1) > 0 ? 1 : 0, 1);
                due.is("stir(0, 1) at noon", x.stir(0, 1), -2);
            } else {
                due.is("set(1, 12): STEP is 12", x.set(1, 12), 12);
            }
            due.is("set(1, 13): BAD ahead of STATE", x.set(1, 13), -1);
            due.is("set(0, 1): NEED knows no STEP", x.set(0, 1), 99);
        }
    }

    private static void planHas8() {
        SpoonHates x = Due.told(FIVE);
        due.is("plan(0) without pairs", x.plan(0), -1);
        for (int i = 0; i < 8; i++) {
            due.is("plans(0, 1)", x.plans(0, 1), i + 1);
            due.is("plan(" + i + ")", x.plan(i), 1);
            due.is("plan(" + (i + 1) + ")", x.plan(i + 1), -1);
        }
        due.is("plans(0, 1), the 9th", x.plans(0, 1), -3);
        due.is("plans(1, 1), the 9th: BAD ahead of FULL", x.plans(1, 1), -1);
        due.is("cut(7)", x.cut(7), 8);
        due.is("plans(3, 2), the 8th again", x.plans(3, 2), 8);
        due.is("plan(7)", x.plan(7), 23);
        due.is("plans(3, 2), the 9th", x.plans(3, 2), -3);
    }

    private static void planPairsByNumbers() {
        for (int pair = 0; pair < 25; pair++) {
            int a = pair / 5, b = pair % 5;
            SpoonHates x = Due.told(FIVE);
            due.is("plans(" + a + ", " + b + ")", x.plans(a, b), a == b ? -1 : 1);
            due.is("plan(0)", x.plan(0), a == b ? -1 : a < b ? 10 * a + b : 10 * b + a);
        }
    }

    private static void cutKeepsTheFirst() {
        int[] pairs = {1, 2, 3, 4, 12, 13, 14, 23};
        for (int n = 0; n <= 8; n++) {
            SpoonHates x = Due.told(FIVE + "plan0 1;plan0 2;plan0 3;plan0 4;plan1 2;plan1 3;plan1 4;plan2 3;");
            due.is("cut(9)", x.cut(9), -1);
            due.is("cut(-1)", x.cut(-1), -1);
            due.is("cut(" + n + ")", x.cut(n), 8);
            due.is("rule(8)", x.rule(8), n);
            due.is("cut(" + (n + 1) + ")", x.cut(n + 1), -1);
            due.is("cut(" + n + ") again", x.cut(n), n);
            for (int i = 0; i < 8; i++) {
                due.is("plan(" + i + ")", x.plan(i), i < n ? pairs[i] : -1);
            }
        }
        SpoonHates y = new SpoonHates();
        due.is("cut(0) of no plan", y.cut(0), 0);
        due.is("cut(1) of no plan", y.cut(1), -1);
    }
}
