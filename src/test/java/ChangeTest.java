/** Promises 11 to 18: what is changed. */
public final class ChangeTest {
    private static final Due due = new Due("ChangeTest");
    private static final String FOUR = "plain;sullen;nun;brother;hate 0 1 6;hate 1 0 2;hate 0 3 1;hate 3 2 8;";

    public static void main(String[] args) {
        hate();
        use();
        tell();
        forgive();
        teach();
        set();
        plans();
        due.close();
    }

    private static void hate() {
        SpoonHates x = Due.told(FOUR);
        due.is("hate(0, 1, 9)", x.hate(0, 1, 9), 6);
        due.is("hate(0, 1, 0)", x.hate(0, 1, 0), 9);
        due.is("hatred(0, 1, 0)", x.hatred(0, 1, 0), 0);
        due.is("hatred(1, 0, 0) stays", x.hatred(1, 0, 0), 2);
        due.is("hate(2, 3, 5)", x.hate(2, 3, 5), 0);
        due.is("hatred(2, 3, 0)", x.hatred(2, 3, 0), 5);
        String before = Due.state(x);
        due.is("hate(0, 1, -1)", x.hate(0, 1, -1), -1);
        due.is("hate(0, 1, 10)", x.hate(0, 1, 10), -1);
        due.is("hate(1, 1, 1)", x.hate(1, 1, 1), -1);
        due.is("hate(-1, 1, 1)", x.hate(-1, 1, 1), -1);
        due.is("hate(4, 1, 1)", x.hate(4, 1, 1), -1);
        due.keeps("hate(1, 4, 1)", x, before, x.hate(1, 4, 1), -1);
    }

    private static void use() {
        SpoonHates x = Due.told(FOUR + "slip 0 1 2;slip 0 1 3;slip 3 2 1;slip 2 0 9;");
        due.is("use(-1)", x.use(-1), -1);
        due.is("use(4)", x.use(4), -1);
        due.is("use(1): 6 and 3", x.use(1), 9);
        due.is("use(1) again", x.use(1), -2);
        due.is("use(0): 9 at most", x.use(0), 9);
        due.is("use(2)", x.use(2), 9);
        due.is("hatred(2, 3, 0): the other one's stays", x.hatred(2, 3, 0), 0);
        due.is("rule(7)", x.rule(7), 7);
        due.is("hate(2, 0, 0)", x.hate(2, 0, 0), 0);
        due.is("use(3)", x.use(3), 9);
        due.is("hatred(2, 0, 0)", x.hatred(2, 0, 0), 9);
        String before = Due.state(x);
        due.keeps("use(3) again", x, before, x.use(3), -2);
    }

    private static void tell() {
        SpoonHates x = Due.told(FOUR);
        due.is("tell(0, 1): it is more already", x.tell(0, 1), 6);
        due.is("hatred(1, 0, 0)", x.hatred(1, 0, 0), 2);
        due.is("tell(1, 0)", x.tell(1, 0), 6);
        due.is("hatred(1, 0, 0)", x.hatred(1, 0, 0), 6);
        due.is("hatred(0, 1, 0)", x.hatred(0, 1, 0), 6);
        due.is("tell(1, 2)", x.tell(1, 2), 0);
        String before = Due.state(x);
        due.is("tell(2, 2)", x.tell(2, 2), -1);
        due.is("tell(4, 2)", x.tell(4, 2), -1);
        due.is("tell(-1, 2)", x.tell(-1, 2), -1);
        due.keeps("tell(2, 4)", x, before, x.tell(2, 4), -1);
    }

    private static void forgive() {
        SpoonHates x = Due.told(FOUR);
        due.is("forgive(0): two of three", x.forgive(0), 2);
        due.is("hatred(0, 1, 0)", x.hatred(0, 1, 0), 0);
        due.is("hatred(0, 3, 0)", x.hatred(0, 3, 0), 0);
        due.is("hatred(1, 0, 0): that of others stays", x.hatred(1, 0, 0), 2);
        due.is("forgive(0) again", x.forgive(0), 0);
        due.is("forgive(3)", x.forgive(3), 1);
        due.is("count(0)", x.count(0), 2);
        due.is("forgive(4)", x.forgive(4), -1);
        due.is("forgive(-1)", x.forgive(-1), -1);
    }

    private static void teach() {
        SpoonHates x = Due.told(FOUR);
        due.is("teach(0, 3)", x.teach(0, 3), 0);
        due.is("teach(0, 1)", x.teach(0, 1), 3);
        due.is("helper(0)", x.helper(0), 1);
        due.is("hatred(0, 1, 1)", x.hatred(0, 1, 1), 5);
        due.is("teach(3, 0)", x.teach(3, 0), 3);
        due.is("hatred(3, 2, 1)", x.hatred(3, 2, 1), 8);
        String before = Due.state(x);
        due.is("teach(0, 4)", x.teach(0, 4), -1);
        due.is("teach(0, -1)", x.teach(0, -1), -1);
        due.is("teach(4, 0)", x.teach(4, 0), -1);
        due.keeps("teach(-1, 0)", x, before, x.teach(-1, 0), -1);
    }

    private static void set() {
        SpoonHates x = Due.told("plain;plain;both 0 1 9;");
        due.is("set(0, 99)", x.set(0, 99), 20);
        due.is("set(0, 1)", x.set(0, 1), 99);
        due.is("rule(1)", x.rule(1), 1);
        due.is("set(1, 12)", x.set(1, 12), 8);
        due.is("set(1, 1)", x.set(1, 1), 12);
        due.is("set(1, 5)", x.set(1, 5), 1);
        due.is("rule(2)", x.rule(2), 5);
        due.is("set(0, 0)", x.set(0, 0), -1);
        due.is("set(0, 100)", x.set(0, 100), -1);
        due.is("set(1, 0)", x.set(1, 0), -1);
        due.is("set(1, 13)", x.set(1, 13), -1);
        due.is("set(2, 5)", x.set(2, 5), -1);
        due.is("set(-1, 5)", x.set(-1, 5), -1);
        x.stir(0, 1);
        x.stir(0, 1);
        x.stir(0, 1);
        due.is("set(1, 2): STEP is 3", x.set(1, 2), -2);
        due.is("set(1, 0): BAD ahead of STATE", x.set(1, 0), -1);
        due.is("set(0, 2): need knows no step", x.set(0, 2), 1);
        due.is("set(1, 3)", x.set(1, 3), 5);
        due.is("stir(0, 1): it is noon", x.stir(0, 1), -2);
        due.is("set(1, 4)", x.set(1, 4), 3);
        due.is("stir(0, 1): 9 and 8 and 7 and 6", x.stir(0, 1), 30);
    }

    private static void plans() {
        SpoonHates x = Due.told(FOUR + "plan 3 1;");
        due.is("plans(2, 0)", x.plans(2, 0), 2);
        due.is("plan(1)", x.plan(1), 2);
        due.is("plans(2, 3)", x.plans(2, 3), 3);
        due.is("plan(2)", x.plan(2), 23);
        due.is("plan(0)", x.plan(0), 13);
        String before = Due.state(x);
        due.is("plans(1, 1)", x.plans(1, 1), -1);
        due.is("plans(4, 1)", x.plans(4, 1), -1);
        due.is("plans(1, -1)", x.plans(1, -1), -1);
        due.is("cut(4)", x.cut(4), -1);
        due.keeps("cut(-1)", x, before, x.cut(-1), -1);
        for (int i = 4; i <= 8; i++) {
            due.is("plans(0, 1)", x.plans(0, 1), i);
        }
        due.is("plans(0, 1), the 9th", x.plans(0, 1), -3);
        due.is("plans(0, 0), the 9th", x.plans(0, 0), -1);
        due.is("rule(8)", x.rule(8), 8);
        due.is("cut(9)", x.cut(9), -1);
        due.is("cut(8)", x.cut(8), 8);
        due.is("cut(2)", x.cut(2), 8);
        due.is("cut(3)", x.cut(3), -1);
        due.is("rule(8)", x.rule(8), 2);
        due.is("plan(2)", x.plan(2), -1);
        due.is("plan(1)", x.plan(1), 2);
        due.is("cut(0)", x.cut(0), 2);
        due.is("plan(0)", x.plan(0), -1);
    }
}
