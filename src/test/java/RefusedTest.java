import java.util.HashMap;
import java.util.Map;
import java.util.SortedMap;
import java.util.function.Supplier;
import java.util.function.ToLongFunction;

/**
 * Each call that is refused, with the answer that the document names for it, on an object of its own: all that the
 * object holds is told behind it and has to be as that of one that was never asked.
 */
public final class RefusedTest {
    private static final Due due = new Due("RefusedTest");
    private static final int BAD = -1, STATE = -2, FULL = -3, NONE = -4;
    private static final int LEAST = Integer.MIN_VALUE, MOST = Integer.MAX_VALUE;
    private static final Map<Supplier<SpoonHates>, String> untouched = new HashMap<>();

    private static final Supplier<SpoonHates> RICH = Kitchens.RICH;
    private static final Supplier<SpoonHates> FULL_ROWS = Kitchens.FULL_ROWS;
    private static final Supplier<SpoonHates> FULL_TAPE = Kitchens.FULL_TAPE;
    private static final Supplier<SpoonHates> AT_NOON = Kitchens.AT_NOON;
    private static final Supplier<SpoonHates> ALMOST_NOON = Kitchens.ALMOST_NOON;
    private static final Supplier<SpoonHates> POT_SET = Kitchens.POT_SET;
    private static final Supplier<SpoonHates> ALIKE_CELLS = Kitchens.ALIKE_CELLS;
    private static final Supplier<SpoonHates> ALONE = Kitchens.ALONE;
    private static final Supplier<SpoonHates> EMPTY = Kitchens.EMPTY;

    private interface OneNumber {
        long ask(SpoonHates x, int v);
    }

    private interface TwoNumbers {
        long ask(SpoonHates x, int a, int b);
    }

    public static void main(String[] args) {
        kitchensAreAsMeant();
        tapeAndText();
        toldKitchen();
        changed();
        rowsChanged();
        stirring();
        whoWithWhom();
        whatItWas();
        loveAndSeed();
        images();
        sheets();
        reads();
        texts();
        onNobody();
        due.close();
    }

    /** That the kitchens hold what makes a refusal of theirs worth looking at. */
    private static void kitchensAreAsMeant() {
        SpoonHates x = RICH.get();
        int[] rules = {5, 50, 9, 2, 4 + 6, 0, 6, 4, 7};
        for (int what = 0; what < rules.length; what++) {
            due.is("rich: rule(" + what + ")", x.rule(what), rules[what]);
        }
        int[] counts = {5, 1, 3, 4};
        for (int what = 0; what < counts.length; what++) {
            due.is("rich: count(" + (what + 1) + ")", x.count(what + 1), counts[what]);
        }
        due.is("rich: torn()", x.torn(), 3);
        due.is("rich: fault()", x.fault(), 1);
        due.is("rich: back(0)", x.back(0), 0);
        due.is("full rows: rule(8)", FULL_ROWS.get().rule(8), 8);
        due.is("full rows: count(1)", FULL_ROWS.get().count(1), 6);
        due.is("full tape: count(3)", FULL_TAPE.get().count(3), 160);
        due.is("at noon: rule(2)", AT_NOON.get().rule(2), 2);
        due.is("pot set: rule(5)", POT_SET.get().rule(5), 1);
        due.is("alone: rule(0)", ALONE.get().rule(0), 1);
    }

    private static void refused(Supplier<SpoonHates> maker, String call, long want, ToLongFunction<SpoonHates> asked) {
        due.is(call, asked.applyAsLong(maker.get()), want);
        String before = untouched.computeIfAbsent(maker, m -> Whole.text(Whole.of(m)));
        String behind = Whole.text(Whole.of(() -> {
            SpoonHates x = maker.get();
            asked.applyAsLong(x);
            return x;
        }));
        due.same(call + " leaves all as it was", behind, before);
    }

    private static void bad(String call, ToLongFunction<SpoonHates> asked) {
        refused(RICH, call, BAD, asked);
    }

    /** Just outside the bounds told, and at the ends of all ints. */
    private static void outside(String call, int least, int most, OneNumber asked) {
        for (int v : new int[] {least - 1, most + 1, LEAST, MOST}) {
            bad(call.replace("v", "" + v), x -> asked.ask(x, v));
        }
    }

    /** Each of two that is no helper, and each that is alike with the other one. */
    private static void noTwo(String call, TwoNumbers asked) {
        for (int v : new int[] {-1, 5, LEAST, MOST}) {
            bad(call.replace("a", "" + v).replace("b", "0"), x -> asked.ask(x, v, 0));
            bad(call.replace("a", "4").replace("b", "" + v), x -> asked.ask(x, 4, v));
            bad(call.replace("a", "" + v).replace("b", "" + v), x -> asked.ask(x, v, v));
        }
        for (int v = 0; v < 5; v++) {
            int same = v;
            bad(call.replace("a", "" + v).replace("b", "" + v) + ", alike", x -> asked.ask(x, same, same));
        }
    }

    private static void tapeAndText() {
        outside("feed(v)", 0, 127, (x, v) -> x.feed(v));
        refused(FULL_TAPE, "feed(32), the 161st", FULL, x -> x.feed(32));
        refused(FULL_TAPE, "feed(0), the 161st", FULL, x -> x.feed(0));
        refused(FULL_TAPE, "feed(127), the 161st", FULL, x -> x.feed(127));
        refused(FULL_TAPE, "feed(128), the 161st: BAD ahead of FULL", BAD, x -> x.feed(128));
        refused(FULL_TAPE, "feed(-1), the 161st: BAD ahead of FULL", BAD, x -> x.feed(-1));
        outside("end(v)", 0, 3, (x, v) -> x.end(v));
        refused(FULL_TAPE, "end(161)", BAD, x -> x.end(161));
        refused(FULL_TAPE, "end(-1)", BAD, x -> x.end(-1));
    }

    private static void toldKitchen() {
        outside("rule(v)", 0, 8, (x, v) -> x.rule(v));
        outside("helper(v)", 0, 4, (x, v) -> x.helper(v));
        noTwo("hatred(a, b, 0)", (x, a, b) -> x.hatred(a, b, 0));
        outside("hatred(0, 1, v)", 0, 1, (x, v) -> x.hatred(0, 1, v));
        outside("slip(v, 0)", 0, 5, (x, v) -> x.slip(v, 0));
        outside("slip(5, v)", 0, 3, (x, v) -> x.slip(5, v));
        outside("plan(v)", 0, 6, (x, v) -> x.plan(v));
    }

    private static void changed() {
        noTwo("hate(a, b, 5)", (x, a, b) -> x.hate(a, b, 5));
        outside("hate(0, 1, v)", 0, 9, (x, v) -> x.hate(0, 1, v));
        outside("use(v)", 0, 5, (x, v) -> x.use(v));
        refused(RICH, "use(2): it is used", STATE, x -> x.use(2));
        noTwo("tell(a, b)", (x, a, b) -> x.tell(a, b));
        outside("forgive(v)", 0, 4, (x, v) -> x.forgive(v));
        outside("teach(v, 0)", 0, 4, (x, v) -> x.teach(v, 0));
        outside("teach(1, v)", 0, 3, (x, v) -> x.teach(1, v));
        outside("set(v, 5)", 0, 1, (x, v) -> x.set(v, 5));
        outside("set(0, v)", 1, 99, (x, v) -> x.set(0, v));
        outside("set(1, v)", 1, 12, (x, v) -> x.set(1, v));
        refused(RICH, "set(1, 1): STEP is 2", STATE, x -> x.set(1, 1));
        refused(AT_NOON, "set(1, 1): STEP is 2", STATE, x -> x.set(1, 1));
        refused(RICH, "set(1, 0): BAD ahead of STATE", BAD, x -> x.set(1, 0));
    }

    private static void rowsChanged() {
        noTwo("plans(a, b)", (x, a, b) -> x.plans(a, b));
        refused(FULL_ROWS, "plans(0, 1), the 9th", FULL, x -> x.plans(0, 1));
        refused(FULL_ROWS, "plans(1, 1), the 9th: BAD ahead of FULL", BAD, x -> x.plans(1, 1));
        refused(FULL_ROWS, "plans(0, 5), the 9th: BAD ahead of FULL", BAD, x -> x.plans(0, 5));
        outside("cut(v)", 0, 7, (x, v) -> x.cut(v));
        refused(FULL_ROWS, "cut(9)", BAD, x -> x.cut(9));
        refused(FULL_ROWS, "cut(-1)", BAD, x -> x.cut(-1));
    }

    private static void stirring() {
        noTwo("turn(a, b)", (x, a, b) -> x.turn(a, b));
        noTwo("stir(a, b)", (x, a, b) -> x.stir(a, b));
        refused(AT_NOON, "stir(2, 3) at noon", STATE, x -> x.stir(2, 3));
        refused(AT_NOON, "stir(2, 2) at noon: BAD ahead of STATE", BAD, x -> x.stir(2, 2));
        refused(POT_SET, "stir(2, 3), the pot set", STATE, x -> x.stir(2, 3));
        refused(POT_SET, "stir(2, 5), the pot set: BAD ahead of STATE", BAD, x -> x.stir(2, 5));
        outside("runs(v)", 0, 4, (x, v) -> x.runs(v));
        noTwo("ahead(a, b, 3)", (x, a, b) -> x.ahead(a, b, 3));
        outside("ahead(0, 1, v)", 0, 12, (x, v) -> x.ahead(0, 1, v));
        noTwo("lasts(a, b)", (x, a, b) -> x.lasts(a, b));
        refused(POT_SET, "lasts(3, 3), the pot set", BAD, x -> x.lasts(3, 3));
        noTwo("three(a, b, 2)", (x, a, b) -> x.three(a, b, 2));
        noTwo("three(a, 2, b)", (x, a, b) -> x.three(a, 2, b));
        noTwo("three(2, a, b)", (x, a, b) -> x.three(2, a, b));
        bad("three(2, 2, 2)", x -> x.three(2, 2, 2));
    }

    private static void whoWithWhom() {
        outside("best(v, 0)", 0, 4, (x, v) -> x.best(v, 0));
        outside("best(2, v)", 0, 1, (x, v) -> x.best(2, v));
        outside("best(2, v)", 10, 13, (x, v) -> x.best(2, v));
        refused(RICH, "best(0, 10): no pair", NONE, x -> x.best(0, 10));
        refused(RICH, "best(2, 12): the third of two", NONE, x -> x.best(2, 12));
        bad("best(5, 10): BAD ahead of NONE", x -> x.best(5, 10));
        outside("few(v)", 0, 0, (x, v) -> x.few(v));
        outside("few(v)", 10, 13, (x, v) -> x.few(v));
        refused(RICH, "few(0): 50 is too much", NONE, x -> x.few(0));
        refused(RICH, "few(10): 50 is too much", NONE, x -> x.few(10));
        bad("few(9): BAD ahead of NONE", x -> x.few(9));
        outside("slips(v)", 0, 1, (x, v) -> x.slips(v));
        refused(POT_SET, "slips(0), the pot set", NONE, x -> x.slips(0));
        refused(POT_SET, "slips(1), the pot set", NONE, x -> x.slips(1));
        refused(POT_SET, "slips(2), the pot set: BAD ahead of NONE", BAD, x -> x.slips(2));
        outside("mate(v)", 0, 4, (x, v) -> x.mate(v));
        refused(ALONE, "mate(0), alone", NONE, x -> x.mate(0));
        refused(ALONE, "mate(1), alone: BAD ahead of NONE", BAD, x -> x.mate(1));
        outside("match(v)", 0, 0, (x, v) -> x.match(v));
        outside("match(v)", 10, 14, (x, v) -> x.match(v));
        refused(ALONE, "match(10), alone", NONE, x -> x.match(10));
        refused(ALONE, "match(11), alone", BAD, x -> x.match(11));
    }

    private static void whatItWas() {
        outside("see(v, 5)", 0, 9, (x, v) -> x.see(v, 5));
        outside("see(5, v)", 0, 18, (x, v) -> x.see(5, v));
        refused(FULL_ROWS, "see(0, 0), the 7th", FULL, x -> x.see(0, 0));
        refused(FULL_ROWS, "see(10, 0), the 7th: BAD ahead of FULL", BAD, x -> x.see(10, 0));
        refused(FULL_ROWS, "see(0, 19), the 7th: BAD ahead of FULL", BAD, x -> x.see(0, 19));
        outside("forget(v)", 0, 5, (x, v) -> x.forget(v));
        refused(FULL_ROWS, "forget(7)", BAD, x -> x.forget(7));
        noTwo("fits(a, b, 0)", (x, a, b) -> x.fits(a, b, 0));
        outside("fits(0, 1, v)", 0, 2, (x, v) -> x.fits(0, 1, v));
        refused(FULL_ROWS, "fits(2, 3, 1): no hatreds fit", NONE, x -> x.fits(2, 3, 1));
        refused(FULL_ROWS, "fits(2, 3, 2): no hatreds fit", NONE, x -> x.fits(2, 3, 2));
        refused(FULL_ROWS, "fits(2, 3, 3): BAD ahead of NONE", BAD, x -> x.fits(2, 3, 3));
        outside("forgave(v)", 0, 999, (x, v) -> x.forgave(v));
    }

    private static void loveAndSeed() {
        outside("luck(v, 0, 1, 0)", 0, 10, (x, v) -> x.luck(v, 0, 1, 0));
        noTwo("luck(5, a, b, 0)", (x, a, b) -> x.luck(5, a, b, 0));
        outside("luck(5, 0, 1, v)", 0, 1, (x, v) -> x.luck(5, 0, 1, v));
        outside("mean(v, 0, 1, 0)", 0, 10, (x, v) -> x.mean(v, 0, 1, 0));
        noTwo("mean(5, a, b, 0)", (x, a, b) -> x.mean(5, a, b, 0));
        outside("mean(5, 0, 1, v)", 0, 1, (x, v) -> x.mean(5, 0, 1, v));
        outside("drift(1, v, 0)", 1, 60, (x, v) -> x.drift(1, v, 0));
        outside("drift(1, 1, v)", 0, 1, (x, v) -> x.drift(1, 1, v));
        refused(ALONE, "drift(1, 1, 0), alone", STATE, x -> x.drift(1, 1, 0));
        refused(ALONE, "drift(1, 0, 0), alone: BAD ahead of STATE", BAD, x -> x.drift(1, 0, 0));
        refused(ALONE, "drift(1, 61, 0), alone: BAD ahead of STATE", BAD, x -> x.drift(1, 61, 0));
        refused(ALONE, "drift(1, 1, 2), alone: BAD ahead of STATE", BAD, x -> x.drift(1, 1, 2));
    }

    private static void images() {
        outside("keep(v)", 0, 1, (x, v) -> x.keep(v));
        outside("back(v)", 0, 1, (x, v) -> x.back(v));
        refused(RICH, "back(1): there is none", STATE, x -> x.back(1));
        refused(EMPTY, "back(0) of a new object", STATE, x -> x.back(0));
        refused(EMPTY, "back(2) of a new object: BAD ahead of STATE", BAD, x -> x.back(2));
        outside("count(v)", 0, 4, (x, v) -> x.count(v));
        refused(EMPTY, "count(4): a sheet of nothing", NONE, x -> x.count(4));
    }

    private static void sheets() {
        outside("sheet(v, 0, 3)", 0, 3, (x, v) -> x.sheet(v, 0, 3));
        outside("sheet(0, v, 3)", 0, 2, (x, v) -> x.sheet(0, v, 3));
        for (int k = 0; k < 4; k++) {
            int of = k;
            bad("sheet(" + k + ", 1, 41)", x -> x.sheet(of, 1, 41));
            refused(RICH, "sheet(" + k + ", 1, -1)", -14, x -> x.sheet(of, 1, -1));
        }
        bad("sheet(0, 1, the greatest)", x -> x.sheet(0, 1, MOST));
        refused(RICH, "sheet(0, 1, the least)", -14, x -> x.sheet(0, 1, LEAST));
        bad("sheet(4, 1, -1): BAD ahead of SIZE", x -> x.sheet(4, 1, -1));
        bad("sheet(0, 3, -1): BAD ahead of SIZE", x -> x.sheet(0, 3, -1));
        outside("lay(v, 0, 1)", 0, 3, (x, v) -> x.lay(v, 0, 1));
        for (int i : new int[] {-1, 4, LEAST, MOST}) {
            refused(RICH, "lay(1, " + i + ", 1)", -12, x -> x.lay(1, i, 1));
            refused(RICH, "lay(3, " + i + ", 1): NULL ahead of INDEX", -11, x -> x.lay(3, i, 1));
            bad("lay(4, " + i + ", 1): BAD ahead of INDEX", x -> x.lay(4, i, 1));
        }
        refused(RICH, "lay(3, 0, 1)", -11, x -> x.lay(3, 0, 1));
    }

    private static void reads() {
        outside("read(v, 0, 0, 1)", 0, 3, (x, v) -> x.read(v, 0, 0, 1));
        outside("read(0, v, 0, 1)", 0, 2, (x, v) -> x.read(0, v, 0, 1));
        outside("read(0, 0, 0, v)", 0, 12, (x, v) -> x.read(0, 0, 0, v));
        outside("read(v, 0, 0, 0)", 0, 3, (x, v) -> x.read(v, 0, 0, 0));
        outside("read(0, v, 0, 0)", 0, 2, (x, v) -> x.read(0, v, 0, 0));
        refused(AT_NOON, "read(0, 0, 0, 1) at noon", -20, x -> x.read(0, 0, 0, 1));
        refused(AT_NOON, "read(0, 0, 0, 3) at noon, the third torn", -20, x -> x.read(0, 0, 0, 3));
        refused(POT_SET, "read(2, 2, 2, 2), the pot set, the second torn", -20, x -> x.read(2, 2, 2, 2));
        refused(ALMOST_NOON, "read(1, 1, 0, 2): noon behind the first", -21, x -> x.read(1, 1, 0, 2));
        refused(ALIKE_CELLS, "read(1, 1, 0, 2): the second is alike", -21, x -> x.read(1, 1, 0, 2));
        refused(ALIKE_CELLS, "read(1, 1, 0, 3): refused ahead of the tear", -21, x -> x.read(1, 1, 0, 3));
        refused(ALIKE_CELLS, "read(1, 1, 2, 1): alike", -20, x -> x.read(1, 1, 2, 1));
        refused(ALIKE_CELLS, "read(2, 2, 2, 1): no such helper", -20, x -> x.read(2, 2, 2, 1));
        refused(ALIKE_CELLS, "read(0, 0, 0, 2): below every helper", -21, x -> x.read(0, 0, 0, 2));
    }

    /** A refused text empties the tape and tells its fault: nothing else is another. */
    private static void texts() {
        String[] texts = {"?", "nun?", "123", "sun;", "nun", "hate 5", "pot1 1;pot", "both0 1 1;hate1 0", "plan0 0",
            "nun;nun;nun;nun;nun;nun;", "slip0 1 1;", "nun;nun;plan0 1;slip0 1 2;both0 1 3;pot1 1;plan0 2;"};
        int[] faults = {1, 1, 1, 2, 2, 3, 4, 4, 3, 5, 6, 6};
        int[] places = {0, 3, 0, 0, 3, 5, 7, 16, 6, 20, 10, 51};
        for (int i = 0; i < texts.length; i++) {
            String text = texts[i];
            Supplier<SpoonHates> fed = () -> {
                SpoonHates x = RICH.get();
                x.end(0);
                Due.feedAll(x, text);
                return x;
            };
            SpoonHates x = fed.get();
            due.is("text() of '" + text + "'", x.text(), -10 - places[i]);
            due.is("fault() of '" + text + "'", x.fault(), faults[i]);
            SortedMap<String, String> want = Whole.of(RICH);
            want.put("fault()", "" + faults[i]);
            want.put("count(3)", "0");
            want.put("tape", "0 0 0 -1");
            String behind = Whole.text(Whole.of(() -> {
                SpoonHates y = fed.get();
                y.text();
                return y;
            }));
            due.same("text() of '" + text + "' leaves all but the tape", behind, Whole.text(want));
        }
    }

    /** Where there is nobody, nobody can be asked for. */
    private static void onNobody() {
        refused(EMPTY, "helper(0)", BAD, x -> x.helper(0));
        refused(EMPTY, "hatred(0, 1, 0)", BAD, x -> x.hatred(0, 1, 0));
        refused(EMPTY, "slip(0, 0)", BAD, x -> x.slip(0, 0));
        refused(EMPTY, "plan(0)", BAD, x -> x.plan(0));
        refused(EMPTY, "hate(0, 1, 1)", BAD, x -> x.hate(0, 1, 1));
        refused(EMPTY, "use(0)", BAD, x -> x.use(0));
        refused(EMPTY, "tell(0, 1)", BAD, x -> x.tell(0, 1));
        refused(EMPTY, "forgive(0)", BAD, x -> x.forgive(0));
        refused(EMPTY, "teach(0, 0)", BAD, x -> x.teach(0, 0));
        refused(EMPTY, "plans(0, 1)", BAD, x -> x.plans(0, 1));
        refused(EMPTY, "cut(1)", BAD, x -> x.cut(1));
        refused(EMPTY, "turn(0, 1)", BAD, x -> x.turn(0, 1));
        refused(EMPTY, "stir(0, 1)", BAD, x -> x.stir(0, 1));
        refused(EMPTY, "ahead(0, 1, 0)", BAD, x -> x.ahead(0, 1, 0));
        refused(EMPTY, "lasts(0, 1)", BAD, x -> x.lasts(0, 1));
        refused(EMPTY, "three(0, 1, 2)", BAD, x -> x.three(0, 1, 2));
        refused(EMPTY, "best(1, 10)", NONE, x -> x.best(1, 10));
        refused(EMPTY, "few(0)", NONE, x -> x.few(0));
        refused(EMPTY, "slips(0)", NONE, x -> x.slips(0));
        refused(EMPTY, "mate(0)", BAD, x -> x.mate(0));
        refused(EMPTY, "match(10)", BAD, x -> x.match(10));
        refused(EMPTY, "forget(1)", BAD, x -> x.forget(1));
        refused(EMPTY, "fits(0, 1, 0)", BAD, x -> x.fits(0, 1, 0));
        refused(EMPTY, "luck(5, 0, 1, 0)", BAD, x -> x.luck(5, 0, 1, 0));
        refused(EMPTY, "mean(5, 0, 1, 0)", BAD, x -> x.mean(5, 0, 1, 0));
        refused(EMPTY, "drift(1, 1, 0)", STATE, x -> x.drift(1, 1, 0));
        refused(ALONE, "stir(0, 1), alone", BAD, x -> x.stir(0, 1));
        refused(ALONE, "turn(0, 0), alone", BAD, x -> x.turn(0, 0));
        refused(ALONE, "three(0, 0, 0), alone", BAD, x -> x.three(0, 0, 0));
        refused(ALONE, "plans(0, 0), alone", BAD, x -> x.plans(0, 0));
    }
}
