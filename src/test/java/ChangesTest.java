import java.util.List;
import java.util.Map;
import java.util.SortedMap;
import java.util.TreeMap;
import java.util.function.Supplier;
import java.util.function.ToLongFunction;

/**
 * Each call that is taken: what it answers, what it changes, and that it changes nothing else of all that the object
 * holds. RefusedTest does the same for each call that is refused.
 */
public final class ChangesTest {
    private static final Due due = new Due("ChangesTest");
    private static final Supplier<SpoonHates> RICH = Kitchens.RICH;
    private static final SortedMap<String, String> RICH_WHOLE = Whole.of(RICH);
    private static final List<Supplier<SpoonHates>> ALL = List.of(RICH, Kitchens.FULL_ROWS, Kitchens.FULL_TAPE,
            Kitchens.AT_NOON, Kitchens.POT_SET, Kitchens.ALONE, Kitchens.EMPTY);

    public static void main(String[] args) {
        askingOfOneNumberChangesNothing();
        askingOfTwoChangesNothing();
        askingOfRowsChangesNothing();
        tape();
        textThatIsTaken();
        hatredsAndKinds();
        potAndPlan();
        stirring();
        stirringThatSets();
        seen();
        keep();
        back();
        sheets();
        reads();
        due.close();
    }

    private static Supplier<SpoonHates> behind(Supplier<SpoonHates> maker, ToLongFunction<SpoonHates> asked) {
        return () -> {
            SpoonHates x = maker.get();
            asked.applyAsLong(x);
            return x;
        };
    }

    private static void changes(Supplier<SpoonHates> maker, String call, long want, ToLongFunction<SpoonHates> asked,
            Map<String, String> whole) {
        due.is(call, asked.applyAsLong(maker.get()), want);
        due.same("all behind " + call, Whole.text(Whole.of(behind(maker, asked))), Whole.text(whole));
    }

    /** Of the rich kitchen; what is changed is told as "name: answers". */
    private static void rich(String call, long want, ToLongFunction<SpoonHates> asked, String... changed) {
        SortedMap<String, String> whole = new TreeMap<>(RICH_WHOLE);
        for (String line : changed) {
            int gap = line.indexOf(": ");
            String was = whole.put(line.substring(0, gap), line.substring(gap + 2));
            due.is(call + " changes " + line + ", which was " + was, line.endsWith(": " + was) ? 0 : 1, 1);
        }
        changes(RICH, call, want, asked, whole);
    }

    private static void asks(String call, ToLongFunction<SpoonHates> asked) {
        for (int i = 0; i < ALL.size(); i++) {
            Supplier<SpoonHates> maker = ALL.get(i);
            SpoonHates x = maker.get();
            long answer = asked.applyAsLong(x);
            due.is(call + " again, of kitchen " + i, asked.applyAsLong(x), answer);
            changes(maker, call + " of kitchen " + i, answer, asked, Whole.of(maker));
        }
    }

    private static void askingOfOneNumberChangesNothing() {
        asks("fault()", SpoonHates::fault);
        asks("torn()", SpoonHates::torn);
        for (int what = 0; what <= 8; what++) {
            int v = what;
            asks("rule(" + v + ")", x -> x.rule(v));
            asks("plan(" + v + ")", x -> x.plan(v));
        }
        for (int what = 0; what < 5; what++) {
            int v = what;
            asks("helper(" + v + ")", x -> x.helper(v));
            asks("runs(" + v + ")", x -> x.runs(v));
            asks("mate(" + v + ")", x -> x.mate(v));
            asks("count(" + v + ")", x -> x.count(v));
            asks("match(" + (10 + v) + ")", x -> x.match(10 + v));
            asks("slip(" + v + ", 3)", x -> x.slip(v, 3));
            asks("slip(5, " + v + ")", x -> x.slip(5, v));
        }
        asks("match(0)", x -> x.match(0));
        for (int v : new int[] {0, 10, 14, 28, 30, 999}) {
            asks("forgave(" + v + ")", x -> x.forgave(v));
        }
    }

    private static void askingOfTwoChangesNothing() {
        for (int pair : new int[] {1, 10, 34, 23, 2}) {
            int a = pair / 10, b = pair % 10;
            String two = "(" + a + ", " + b;
            asks("turn" + two + ")", x -> x.turn(a, b));
            asks("lasts" + two + ")", x -> x.lasts(a, b));
            asks("three" + two + ", 4)", x -> x.three(a, b, 4));
            for (int what = 0; what < 3; what++) {
                int v = what;
                asks("hatred" + two + ", " + v + ")", x -> x.hatred(a, b, v));
                asks("ahead" + two + ", " + 6 * v + ")", x -> x.ahead(a, b, 6 * v));
                asks("fits" + two + ", " + v + ")", x -> x.fits(a, b, v));
                asks("luck(" + 5 * v + ", " + two + ", 0)", x -> x.luck(5 * v, a, b, 0));
                asks("mean(" + 5 * v + ", " + two + ", 1)", x -> x.mean(5 * v, a, b, 1));
            }
        }
    }

    private static void askingOfRowsChangesNothing() {
        for (int what : new int[] {0, 1, 10, 13}) {
            asks("best(0, " + what + ")", x -> x.best(0, what));
            asks("best(3, " + what + ")", x -> x.best(3, what));
            asks("few(" + what + ")", x -> x.few(what));
            asks("slips(" + what + ")", x -> x.slips(what));
            asks("drift(" + what + ", 60, 0)", x -> x.drift(what, 60, 0));
            asks("drift(" + what + ", 1, 1)", x -> x.drift(what, 1, 1));
        }
    }

    private static void tape() {
        rich("feed(';')", 4, x -> x.feed(';'), "count(3): 4", "tape: 1 0 1 2");
        rich("feed(0)", 4, x -> x.feed(0), "count(3): 4", "tape: -13 1");
        rich("end(3)", 3, x -> x.end(3));
        rich("end(2)", 3, x -> x.end(2), "count(3): 2", "tape: -10 2");
        rich("end(0)", 3, x -> x.end(0), "count(3): 0", "tape: 0 0 0 -1");
    }

    /** It tells all; sheets, and the fault of the latest read(), are no text's. */
    private static void textThatIsTaken() {
        String[] texts = {"", "brother;", "nun;brother;sullen;both0 1 5;hate2 0 3;pot7 3;slip1 0 4;plan1 0;"};
        int[] lines = {0, 1, 8};
        for (int i = 0; i < texts.length; i++) {
            String text = texts[i];
            SortedMap<String, String> whole = Whole.of(() -> Due.told(text));
            Whole.of(Kitchens.FULL_ROWS).forEach((name, told) -> {
                if (name.startsWith("sheet") || name.equals("torn()") || name.equals("count(4)")) {
                    whole.put(name, told);
                }
            });
            Supplier<SpoonHates> fed = behind(behind(Kitchens.FULL_ROWS, x -> x.end(0)), x -> {
                Due.feedAll(x, text);
                return 0;
            });
            changes(fed, "text() of '" + text + "'", lines[i], SpoonHates::text, whole);
        }
    }

    private static void hatredsAndKinds() {
        rich("hate(2, 4, 9)", 2, x -> x.hate(2, 4, 9), "hatred(2, 4, 0): 9");
        rich("hate(4, 2, 0)", 4, x -> x.hate(4, 2, 0), "hatred(4, 2, 0): 0");
        rich("hate(2, 4, 2), as it is", 2, x -> x.hate(2, 4, 2));
        rich("use(0)", 5, x -> x.use(0), "rule(7): 5", "hatred(0, 1, 0): 5");
        rich("use(3): 9 at most", 9, x -> x.use(3), "rule(7): 12", "hatred(3, 2, 0): 9");
        rich("tell(0, 1)", 5, x -> x.tell(0, 1), "hatred(0, 1, 0): 5");
        rich("tell(1, 0): it is more already", 5, x -> x.tell(1, 0));
        rich("tell(2, 3): it is as much already", 8, x -> x.tell(2, 3));
        rich("forgive(1)", 4, x -> x.forgive(1), "hatred(1, 0, 0): 0", "hatred(1, 2, 0): 0", "hatred(1, 3, 0): 0",
                "hatred(1, 4, 0): 0");
        rich("teach(3, 2)", 3, x -> x.teach(3, 2), "helper(3): 2");
        rich("teach(0, 1)", 0, x -> x.teach(0, 1), "helper(0): 1");
        rich("teach(4, 3)", 0, x -> x.teach(4, 3), "helper(4): 3");
        rich("teach(4, 0), as it is", 0, x -> x.teach(4, 0));
    }

    private static void potAndPlan() {
        rich("set(0, 99)", 50, x -> x.set(0, 99), "rule(1): 99");
        rich("set(0, 1), less than is done", 50, x -> x.set(0, 1), "rule(1): 1");
        rich("set(1, 2)", 9, x -> x.set(1, 2), "rule(2): 2");
        rich("set(1, 12)", 9, x -> x.set(1, 12), "rule(2): 12");
        rich("plans(4, 2)", 8, x -> x.plans(4, 2), "rule(8): 8", "plan(7): 24");
        rich("plans(1, 3), once more", 8, x -> x.plans(1, 3), "rule(8): 8", "plan(7): 13");
        rich("cut(7)", 7, x -> x.cut(7));
        rich("cut(5)", 7, x -> x.cut(5), "rule(8): 5", "plan(5): -1", "plan(6): -1");
    }

    private static void stirring() {
        rich("stir(4, 0)", 13, x -> x.stir(4, 0), "rule(3): 3", "rule(4): 13", "hatred(0, 4, 0): 2",
                "hatred(4, 0, 0): 6");
        rich("stir(1, 2): the sullen one cools not at STEP 2", 11, x -> x.stir(1, 2), "rule(3): 3", "rule(4): 11",
                "hatred(2, 1, 0): 2");
        rich("stir(3, 1)", 13, x -> x.stir(3, 1), "rule(3): 3", "rule(4): 13", "hatred(3, 1, 0): 4");
    }

    private static void stirringThatSets() {
        Supplier<SpoonHates> maker = () -> Due.told("plain;brother;nun;hate0 2 4;plan0 1;pot9 9;");
        SortedMap<String, String> whole = Whole.of(maker);
        whole.put("rule(3)", "1");
        whole.put("rule(5)", "1");
        changes(maker, "stir(0, 1)", 0, x -> x.stir(0, 1), whole);
        changes(maker, "stir(1, 2)", 0, x -> x.stir(1, 2), whole);
        // one of them hates: it does not set
        whole.put("rule(5)", "0");
        whole.put("hatred(0, 2, 0)", "3");
        changes(maker, "stir(2, 0)", 0, x -> x.stir(2, 0), whole);
    }

    private static void seen() {
        rich("see(4, 2)", 6, x -> x.see(4, 2), "seen(6): 7 66 96");
        rich("see(4, 3)", 6, x -> x.see(4, 3), "seen(6): 0 -4 -4");
        rich("forget(5)", 5, x -> x.forget(5));
        rich("forget(1)", 5, x -> x.forget(1), "seen(2): none", "seen(3): none", "seen(4): none", "seen(5): none");
    }

    /** Each image comes to hold all that the kitchen holds, the other one is left. */
    private static void keep() {
        for (int k = 0; k < 2; k++) {
            int of = k;
            SortedMap<String, String> whole = new TreeMap<>(RICH_WHOLE);
            RICH_WHOLE.forEach((name, told) -> {
                if (Whole.isOfKitchen(name)) {
                    whole.put(Whole.image(of) + name, told);
                }
            });
            whole.put("count(2)", "" + (k + 1));
            changes(RICH, "keep(" + k + ")", k == 0 ? 1 : 0, x -> x.keep(of), whole);
        }
    }

    /** Whatever has been changed since, in every place there is. */
    private static void back() {
        for (int k = 0; k < 2; k++) {
            int of = k;
            Supplier<SpoonHates> kept = behind(Kitchens.FULL_ROWS, x -> x.keep(of));
            SortedMap<String, String> whole = Whole.of(kept);
            changes(behind(kept, ChangesTest::changeAll), "back(" + k + ")", 10, x -> x.back(of), whole);
        }
        SortedMap<String, String> whole = new TreeMap<>(RICH_WHOLE);
        RICH_WHOLE.keySet().stream().filter(Whole::isOfKitchen).forEach(
                name -> whole.put(name, RICH_WHOLE.get(Whole.image(0) + name)));
        changes(RICH, "back(0), of another kitchen", 0, x -> x.back(0), whole);
    }

    private static long changeAll(SpoonHates x) {
        for (int a = 0; a < 5; a++) {
            x.teach(a, 3 - x.helper(a));
            for (int b = 0; b < 5; b++) {
                x.hate(a, b, a == 3 || b == 3 ? 0 : 1);
            }
        }
        for (int i = 0; i < 6; i++) {
            x.use(i);
        }
        x.set(0, 1);
        x.set(1, 12);
        x.cut(0);
        for (int i = 0; i < 8; i++) {
            x.plans(2, 0);
        }
        x.forget(0);
        for (int i = 0; i < 6; i++) {
            x.see(0, 1);
        }
        x.stir(0, 1);
        x.hate(3, 1, 0);
        x.hate(1, 3, 0);
        x.stir(1, 3);
        due.is("rule(5): it has been set", x.rule(5), 1);
        return 0;
    }

    private static void sheets() {
        rich("sheet(0, 2, 7)", 1, x -> x.sheet(0, 2, 7), "count(4): 7", "sheet 0: lane 2", "sheet 0 from 0: -20 0",
                "sheet 0 from 1: -20 0", "sheet 0 from 2: -20 0", "sheet 0 from 3: -20 0", "sheet 0 from 4: 1");
        rich("sheet(1, 1, 3)", 1, x -> x.sheet(1, 1, 3), "sheet 1 from 0: -20 0", "sheet 1 from 1: -20 0",
                "sheet 1 from 2: 0 0");
        rich("sheet(2, 0, 40)", 1, x -> x.sheet(2, 0, 40), "sheet 2: lane 0", "sheet 2 from 0: -20 0",
                "sheet 2 from 1: -20 0", "sheet 2 from 2: -20 0", "sheet 2 from 3: -20 0", "sheet 2 from 4: 1",
                "sheet 2 from 39: 1");
        rich("lay(0, 1, 4)", 1, x -> x.lay(0, 1, 4), "sheet 0 from 0: 1 6", "sheet 0 from 1: 1 1");
        rich("lay(1, 0, 65536)", 1, x -> x.lay(1, 0, 65536), "sheet 1 from 0: 1 8");
        rich("lay(2, 3, 9)", 1, x -> x.lay(2, 3, 9), "sheet 2 from 2: -20 0");
        rich("lay(0, 3, 259), as it is", 1, x -> x.lay(0, 3, 259));
    }

    private static void reads() {
        rich("read(0, 0, 0, 2)", 2, x -> x.read(0, 0, 0, 2), "torn(): 0", "rule(3): 4", "rule(4): 16",
                "hatred(0, 1, 0): 2", "hatred(2, 3, 0): 7", "hatred(3, 2, 0): 6");
        rich("read(0, 0, 2, 2)", 1, x -> x.read(0, 0, 2, 2), "torn(): 2", "rule(3): 3", "rule(4): 13",
                "hatred(2, 3, 0): 7", "hatred(3, 2, 0): 6");
        rich("read(0, 0, 3, 1)", 0, x -> x.read(0, 0, 3, 1), "torn(): 2");
        rich("read(0, 2, 0, 1)", 0, x -> x.read(0, 2, 0, 1));
        rich("read(3, 0, 0, 1)", 0, x -> x.read(3, 0, 0, 1), "torn(): 1");
        rich("read(3, 0, 0, 0)", 0, x -> x.read(3, 0, 0, 0), "torn(): 0");
    }
}
