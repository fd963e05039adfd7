/** Counts the answers that are not as due, and makes kitchens of texts. */
final class Due {
    /** By their numbers. */
    static final String[] KINDS = {"plain", "sullen", "nun", "brother"};

    private final String name;
    private int asked = 0;
    private int wrong = 0;

    Due(String name) {
        this.name = name;
    }

    void is(String call, long got, long want) {
        asked++;
        if (got != want) {
            wrong++;
            System.out.println(name + ": " + call + " answered " + got + ", due is " + want);
        }
    }

    /** That two tellings of all that is held are alike; of those that are not, the first lines that differ are told. */
    void same(String call, String got, String want) {
        asked++;
        if (!got.equals(want)) {
            wrong++;
            String[] gotLines = got.split("\n");
            String[] wantLines = want.split("\n");
            int i = 0;
            while (i < gotLines.length - 1 && i < wantLines.length - 1 && gotLines[i].equals(wantLines[i])) {
                i++;
            }
            System.out.println(name + ": " + call + ": '" + gotLines[i] + "', due is '" + wantLines[i] + "'");
        }
    }

    /** Every test's main method ends with this. */
    void close() {
        System.out.println(name + ": " + asked + " answers, " + wrong + " not as due");
        if (wrong > 0 || asked == 0) {
            System.exit(1);
        }
    }

    static void feedAll(SpoonHates x, String text) {
        for (int i = 0; i < text.length(); i++) {
            x.feed(text.charAt(i));
        }
    }

    /** A new sheet of just these cells. */
    static void lay(SpoonHates x, int k, int lane, int... cells) {
        x.sheet(k, lane, cells.length);
        for (int i = 0; i < cells.length; i++) {
            x.lay(k, i, cells[i]);
        }
    }

    /** A new object that has been told a text without a fault. */
    static SpoonHates told(String text) {
        SpoonHates x = new SpoonHates();
        feedAll(x, text);
        int lines = x.text();
        if (lines < 0) {
            throw new IllegalStateException("the test's own text is refused: " + text + ": " + lines);
        }
        return x;
    }

    /** So many plain ones, each hating each as much as may be. */
    static SpoonHates haters(int helpers) {
        SpoonHates x = told("plain;".repeat(helpers) + "pot99 12;");
        for (int pair = 0; pair < 25; pair++) {
            x.hate(pair / 5, pair % 5, 9);
        }
        return x;
    }

    /** What one of a kind FEELS of a HATRED. */
    static int feels(int kind, int hatred) {
        int[] byKind = {hatred, hatred == 0 ? 0 : hatred - 1, hatred > 3 ? 3 : hatred, hatred + hatred};
        return byKind[kind];
    }

    /** All that can be asked for without changing a thing, in one line. */
    static String state(SpoonHates x) {
        StringBuilder all = new StringBuilder();
        for (int what = 0; what < 9; what++) {
            all.append(x.rule(what)).append(' ');
        }
        for (int a = 0; a < 5; a++) {
            all.append(" k").append(x.helper(a));
            for (int b = 0; b < 5; b++) {
                all.append(' ').append(x.hatred(a, b, 0));
            }
        }
        for (int i = 0; i < 6; i++) {
            all.append(" s").append(x.slip(i, 0)).append(' ').append(x.slip(i, 1)).append(' ')
                    .append(x.slip(i, 2)).append(' ').append(x.slip(i, 3));
        }
        for (int i = 0; i < 8; i++) {
            all.append(" p").append(x.plan(i));
        }
        for (int what = 0; what < 5; what++) {
            all.append(" c").append(x.count(what));
        }
        return all.append(" t").append(x.torn()).append(" f").append(x.fault()).toString();
    }

    /** That a call answers as due and changes nothing that can be asked for. */
    void keeps(String call, SpoonHates x, String before, long got, long want) {
        is(call, got, want);
        is(call + " changes nothing", state(x).equals(before) ? 0 : 1, 0);
    }
}
