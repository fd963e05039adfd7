import java.util.function.Supplier;

/** Objects to be asked; each time a new one. */
final class Kitchens {
    static final Supplier<SpoonHates> RICH = Kitchens::rich;
    static final Supplier<SpoonHates> FULL_ROWS = Kitchens::fullRows;
    static final Supplier<SpoonHates> FULL_TAPE = Kitchens::fullTape;
    static final Supplier<SpoonHates> AT_NOON = Kitchens::atNoon;
    static final Supplier<SpoonHates> ALMOST_NOON = Kitchens::almostNoon;
    static final Supplier<SpoonHates> POT_SET = Kitchens::potSet;
    static final Supplier<SpoonHates> ALIKE_CELLS = Kitchens::withAlikeCells;
    static final Supplier<SpoonHates> ALONE = () -> Due.told("brother;");
    static final Supplier<SpoonHates> EMPTY = SpoonHates::new;

    private Kitchens() {
    }

    /** Five helpers of all kinds, each hating each; something of all there is, and room for a little more. */
    static SpoonHates rich() {
        SpoonHates x = Due.told("plain;sullen;nun;brother;plain;pot50 9;slip0 1 2;slip1 0 3;slip2 3 1;slip3 2 9;"
                + "slip4 0 5;slip0 4 4;");
        for (int a = 0; a < 5; a++) {
            for (int b = 0; b < 5; b++) {
                if (a != b) {
                    x.hate(a, b, (3 * a + 2 * b) % 7 + 2);
                }
            }
        }
        int[][] pairs = {{0, 4}, {1, 2}, {3, 0}, {2, 3}, {4, 1}, {0, 1}, {3, 1}};
        for (int[] pair : pairs) {
            x.plans(pair[0], pair[1]);
        }
        x.see(9, 0);
        x.see(3, 3);
        x.see(2, 4);
        x.see(1, 5);
        x.see(0, 6);
        x.keep(0);
        x.stir(0, 1);
        x.stir(3, 4);
        x.use(2);
        Due.lay(x, 0, 0, 0, 1, 2, 3);
        Due.lay(x, 1, 1, 1, 2, 3, 4);
        Due.lay(x, 2, 2, 4, 0, 3, 1);
        x.read(1, 0, 0, 1);
        x.feed('?');
        x.text();
        Due.feedAll(x, "nun");
        return x;
    }

    private static SpoonHates fullRows() {
        SpoonHates x = rich();
        x.plans(4, 2);
        x.see(4, 2);
        Due.lay(x, 3, 1, 3, 4, 1);
        return x;
    }

    private static SpoonHates fullTape() {
        SpoonHates x = Due.told("nun;nun;both0 1 5;");
        Due.feedAll(x, "nun;nun;" + " ".repeat(151) + "?");
        return x;
    }

    private static SpoonHates atNoon() {
        SpoonHates x = rich();
        x.set(1, 2);
        return x;
    }

    private static SpoonHates almostNoon() {
        SpoonHates x = rich();
        x.set(1, 3);
        return x;
    }

    private static SpoonHates potSet() {
        SpoonHates x = rich();
        x.hate(0, 1, 0);
        x.hate(1, 0, 0);
        x.stir(0, 1);
        return x;
    }

    private static SpoonHates withAlikeCells() {
        SpoonHates x = rich();
        x.lay(1, 2, 4);
        x.lay(2, 2, 5);
        x.lay(0, 3, -1);
        return x;
    }
}
