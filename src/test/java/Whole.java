import java.util.Map;
import java.util.SortedMap;
import java.util.TreeMap;
import java.util.function.Supplier;

/**
 * All that an object holds, each under its own name: what can be asked for, and what only calls that change it can tell
 * (what was seen, images, the tape, sheets). Each part is asked of an object of its own, all made alike, so that none is
 * called more than 512 times.
 */
final class Whole {
    private static final int TORN_BY_INDEX = 2;
    private static final int BEYOND_EVERY_CELL = 40;

    private final SortedMap<String, String> all = new TreeMap<>();

    private Whole() {
    }

    static SortedMap<String, String> of(Supplier<SpoonHates> maker) {
        Whole whole = new Whole();
        whole.asked(maker.get());
        whole.kitchen("", maker.get());
        for (int k = 0; k < 2; k++) {
            SpoonHates x = maker.get();
            if (x.back(k) >= 0) {
                whole.kitchen(image(k), x);
            }
        }
        whole.tape(maker.get());
        whole.sheets(maker.get());
        return whole.all;
    }

    /** What the names of all that an image holds begin with. */
    static String image(int k) {
        return "image " + k + ": ";
    }

    static boolean isOfKitchen(String name) {
        return name.matches("(rule|helper|hatred|slip|plan|seen)\\(.*");
    }

    static String text(Map<String, String> whole) {
        StringBuilder text = new StringBuilder();
        whole.forEach((name, told) -> text.append(name).append(": ").append(told).append('\n'));
        return text.toString();
    }

    private void put(String name, long... answers) {
        StringBuilder told = new StringBuilder();
        for (long answer : answers) {
            told.append(told.length() == 0 ? "" : " ").append(answer);
        }
        all.put(name, told.toString());
    }

    private void asked(SpoonHates x) {
        put("fault()", x.fault());
        put("torn()", x.torn());
        for (int what = 2; what <= 4; what++) {
            put("count(" + what + ")", x.count(what));
        }
    }

    /** What an image holds, too. */
    private void kitchen(String of, SpoonHates x) {
        for (int what = 0; what <= 8; what++) {
            put(of + "rule(" + what + ")", x.rule(what));
        }
        for (int a = 0; a < 5; a++) {
            put(of + "helper(" + a + ")", x.helper(a));
            for (int b = 0; b < 5; b++) {
                put(of + "hatred(" + a + ", " + b + ", 0)", x.hatred(a, b, 0));
            }
        }
        for (int i = 0; i < 6; i++) {
            put(of + "slip(" + i + ")", x.slip(i, 0), x.slip(i, 1), x.slip(i, 2));
        }
        for (int i = 0; i < 8; i++) {
            put(of + "plan(" + i + ")", x.plan(i));
        }
        seen(of, x);
    }

    /** By what fits it and those ahead of it, of two plain ones. */
    private void seen(String of, SpoonHates x) {
        x.teach(0, 0);
        x.teach(1, 0);
        for (int i = 6; i > 0; i--) {
            boolean isSeen = i <= x.count(1);
            if (isSeen) {
                put(of + "seen(" + i + ")", x.fits(0, 1, 0), x.fits(0, 1, 1), x.fits(0, 1, 2));
                x.forget(i - 1);
            } else {
                all.put(of + "seen(" + i + ")", "none");
            }
        }
    }

    private void tape(SpoonHates x) {
        int lines = x.text();
        if (lines < 0) {
            put("tape", lines, x.fault());
        } else {
            put("tape", lines, x.fault(), x.rule(0), x.helper(0));
        }
    }

    /** In a kitchen of plain ones where each two turn otherwise, so that DONE tells whom the cells tell. */
    private void sheets(SpoonHates x) {
        x.end(0);
        Due.feedAll(x, "plain;".repeat(5) + "pot99 12;");
        x.text();
        int turn = 9;
        for (int pair = 0; pair < 25; pair++) {
            int a = pair / 5, b = pair % 5;
            if (a < b) {
                x.hate(a, b, turn);
                x.hate(b, a, turn == 0 ? 9 : turn);
                turn--;
            }
        }
        x.keep(0);
        for (int k = 0; k < 4; k++) {
            sheet(x, k);
        }
    }

    private void sheet(SpoonHates x, int k) {
        all.put("sheet " + k, "nothing");
        for (int lane = 0; lane < 3; lane++) {
            x.read(k, lane, BEYOND_EVERY_CELL, 1);
            if (x.torn() == TORN_BY_INDEX) {
                all.put("sheet " + k, "lane " + lane);
                for (int f = 0; f < 4; f++) {
                    put("sheet " + k + " from " + f, x.read(k, lane, f, 1), x.rule(4));
                    x.back(0);
                }
                put("sheet " + k + " from 4", x.lay(k, 4, 0));
                put("sheet " + k + " from 39", x.lay(k, 39, 0));
            }
        }
    }
}
