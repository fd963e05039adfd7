import java.lang.reflect.Method;
import java.util.ArrayList;
import java.util.Comparator;
import java.util.List;
import java.util.Random;

/** Runs of calls by fixed seeds: program and model have to answer alike. */
public final class ModelTest {
    private static final int RUNS = 1500;
    private static final int CALLS = 512;
    private static final String[] WORDS = {"plain", "sullen", "nun", "brother", "hate", "both", "pot", "slip", "plan"};

    private final Random random;
    private final SpoonHates program = new SpoonHates();
    private final Model model = new Model();
    private final StringBuilder told = new StringBuilder();
    private int calls = 0;

    private ModelTest(long seed) {
        random = new Random(seed);
    }

    public static void main(String[] args) throws ReflectiveOperationException {
        Due due = new Due("ModelTest");
        List<Method> face = new ArrayList<>();
        for (Method m : SpoonHates.class.getDeclaredMethods()) {
            if ((m.getModifiers() & java.lang.reflect.Modifier.PUBLIC) != 0) {
                face.add(m);
            }
        }
        face.sort(Comparator.comparing(Method::getName));
        int wrong = 0;
        for (int seed = 0; seed < RUNS && wrong < 5; seed++) {
            wrong += new ModelTest(seed).run(due, face, seed) ? 0 : 1;
        }
        due.close();
    }

    private boolean run(Due due, List<Method> face, int seed) throws ReflectiveOperationException {
        while (calls < CALLS) {
            if (random.nextInt(25) == 0 && calls < CALLS - 170) {
                if (!text(due, seed)) {
                    return false;
                }
            } else {
                Method m = face.get(random.nextInt(face.size()));
                boolean isDear = m.getName().equals("best") || m.getName().equals("few");
                boolean isRare = m.getName().equals("text") || m.getName().equals("feed");
                if (isDear && random.nextInt(8) != 0 || isRare && random.nextInt(5) != 0) {
                    continue;
                }
                if (!ask(due, m, arguments(m), seed)) {
                    return false;
                }
            }
        }
        return true;
    }

    private boolean text(Due due, int seed) throws ReflectiveOperationException {
        String text = random.nextInt(3) == 0 ? brokenText() : goodText();
        Method feed = SpoonHates.class.getMethod("feed", int.class);
        if (!ask(due, SpoonHates.class.getMethod("end", int.class), new Object[] {0}, seed)) {
            return false;
        }
        for (int i = 0; i < text.length() && i < 160; i++) {
            if (!ask(due, feed, new Object[] {(int) text.charAt(i)}, seed)) {
                return false;
            }
        }
        return ask(due, SpoonHates.class.getMethod("text"), new Object[0], seed)
                && ask(due, SpoonHates.class.getMethod("fault"), new Object[0], seed);
    }

    private boolean ask(Due due, Method m, Object[] arguments, int seed) throws ReflectiveOperationException {
        calls++;
        Method same = Model.class.getDeclaredMethod(m.getName(), m.getParameterTypes());
        long got = ((Number) m.invoke(program, arguments)).longValue();
        long want = ((Number) same.invoke(model, arguments)).longValue();
        told.append(m.getName()).append(List.of(arguments)).append('=').append(want).append(' ');
        due.is(got == want ? "" : "seed " + seed + ": " + told, got, want);
        return got == want;
    }

    /** Mostly small numbers, so that most calls are not refused; at times the edges of all ints. */
    private Object[] arguments(Method m) {
        Object[] all = new Object[m.getParameterCount()];
        for (int i = 0; i < all.length; i++) {
            int n = random.nextInt(100);
            all[i] = n < 70 ? random.nextInt(5) : n < 94 ? random.nextInt(18) - 2
                    : n < 97 ? random.nextInt(200) - 20 : n < 98 ? Integer.MAX_VALUE - random.nextInt(3)
                    : n < 99 ? Integer.MIN_VALUE + random.nextInt(3) : random.nextInt();
        }
        String name = m.getName();
        if (name.equals("drift")) {
            all[0] = random.nextInt();
            all[1] = random.nextInt(66) - 2;
        }
        if (name.equals("hate") && random.nextInt(4) != 0) {
            all[2] = random.nextInt(10);
        }
        if (name.equals("see") && random.nextInt(4) != 0) {
            all[0] = random.nextInt(4);
            all[1] = random.nextInt(5);
        }
        if (name.equals("forgave")) {
            all[0] = random.nextInt(4) == 0 ? random.nextInt(40) : model.runs(0) - random.nextInt(3);
        }
        if (name.equals("set") && random.nextInt(2) == 0) {
            all[0] = 0;
            all[1] = Math.max(1, model.runs(0) + random.nextInt(12) - 3);
        }
        if (name.equals("sheet") && random.nextInt(2) == 0) {
            all[2] = random.nextInt(44) - 2;
        }
        boolean asksPlace = name.equals("best") || name.equals("few") || name.equals("match");
        if (asksPlace && random.nextInt(2) == 0) {
            all[all.length - 1] = 10 + random.nextInt(5);
        }
        return all;
    }

    private String goodText() {
        StringBuilder text = new StringBuilder();
        int helpers = random.nextInt(8) == 0 ? random.nextInt(3) : 2 + random.nextInt(4);
        for (int i = 0; i < helpers; i++) {
            text.append(WORDS[random.nextInt(4)]).append(gap(false)).append(';');
        }
        if (helpers > 1) {
            int lines = random.nextInt(12);
            boolean[] toldPairs = new boolean[100];
            for (int i = 0; i < lines; i++) {
                text.append(line(helpers, toldPairs));
            }
        }
        if (random.nextInt(2) == 0) {
            text.append("pot ").append(1 + random.nextInt(30)).append(' ').append(1 + random.nextInt(12)).append(';');
        }
        return text.toString();
    }

    private String line(int helpers, boolean[] toldPairs) {
        int a = random.nextInt(helpers);
        int b = (a + 1 + random.nextInt(helpers - 1)) % helpers;
        String two = gap(false) + a + gap(true) + b;
        int sort = random.nextInt(6);
        if (sort == 0) {
            return "slip" + two + gap(true) + (1 + random.nextInt(9)) + ";";
        }
        if (sort < 3) {
            return "plan" + two + ";";
        }
        if (toldPairs[10 * a + b] || toldPairs[10 * b + a]) {
            return "";
        }
        toldPairs[10 * a + b] = true;
        boolean isBoth = sort < 5;
        toldPairs[10 * b + a] = isBoth;
        return (isBoth ? "both" : "hate") + two + gap(true) + random.nextInt(10) + ";";
    }

    private String gap(boolean isNeeded) {
        return " ".repeat(random.nextInt(9) == 0 ? 2 : isNeeded ? 1 : random.nextInt(2));
    }

    /** A good text with a few places changed, or tokens by chance. */
    private String brokenText() {
        StringBuilder text = new StringBuilder(goodText());
        int changes = 1 + random.nextInt(3);
        for (int i = 0; i < changes; i++) {
            int at = random.nextInt(text.length() + 1);
            int sort = random.nextInt(4);
            if (sort == 0 && at < text.length()) {
                text.deleteCharAt(at);
            } else if (sort == 1) {
                text.insert(at, WORDS[random.nextInt(WORDS.length)] + " 0 1 2;");
            } else if (sort == 2) {
                text.insert(at, random.nextInt(13));
            } else {
                text.insert(at, (char) random.nextInt(128));
            }
        }
        return text.toString();
    }
}
