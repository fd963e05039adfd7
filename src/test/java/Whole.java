/**
 * All that an object holds, in one text: what can be asked for, and what only calls that change it can tell (what was
 * seen, the cells of sheets, images, the tape). Some 300 calls; the object is of no use afterwards.
 */
final class Whole {
    private final SpoonHates x;
    private final StringBuilder all = new StringBuilder();

    private Whole(SpoonHates x) {
        this.x = x;
    }

    static String of(SpoonHates x) {
        Whole whole = new Whole(x);
        whole.asked();
        whole.kitchen();
        whole.sheets();
        whole.images();
        whole.tape();
        return whole.all.toString();
    }

    private void put(String name, long... answers) {
        all.append(name);
        for (long answer : answers) {
            all.append(' ').append(answer);
        }
        all.append('\n');
    }

    private void asked() {
        put("fault, torn", x.fault(), x.torn());
        put("counts", x.count(1), x.count(2), x.count(3), x.count(4));
        for (int i = 0; i < x.rule(6); i++) {
            put("slip", x.slip(i, 0), x.slip(i, 1), x.slip(i, 2), x.slip(i, 3));
        }
    }

    /** What an image holds, too. */
    private void kitchen() {
        for (int what = 0; what <= 8; what++) {
            put("rule", x.rule(what));
        }
        int helpers = x.rule(0);
        for (int a = 0; a < helpers; a++) {
            put("kind", x.helper(a));
            for (int b = 0; b < helpers; b++) {
                put("hatred", a == b ? 0 : x.hatred(a, b, 0));
            }
        }
        for (int i = 0; i < x.rule(8); i++) {
            put("plan", x.plan(i));
        }
        seen();
    }

    /** Each that was seen tells itself by what fits no more with it. */
    private void seen() {
        for (int many = x.count(1); many > 0; many--) {
            put("seen", x.fits(0, 1, 0), x.fits(0, 1, 1), x.fits(0, 1, 2));
            x.forget(many - 1);
        }
    }

    /** By pairs of cells, each stirred alone: who they are is told by what is done and left. */
    private void sheets() {
        x.set(1, 12);
        for (int k = 0; k < 4; k++) {
            for (int lane = 0; lane < 3; lane++) {
                put("sheet " + k + " as of " + lane, x.read(k, lane, 40, 1), x.torn());
                if (x.torn() == 2) {
                    put("its cells", x.read(k, lane, 0, 1), x.rule(4), x.read(k, lane, 1, 1), x.rule(4));
                    put("its cells", x.read(k, lane, 2, 1), x.rule(4), x.count(0));
                }
            }
        }
    }

    private void images() {
        for (int k = 0; k < 2; k++) {
            int done = x.back(k);
            put("image", done);
            if (done >= 0) {
                kitchen();
            }
        }
    }

    private void tape() {
        put("tape", x.text(), x.fault(), x.rule(0));
    }
}
