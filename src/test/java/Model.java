import java.math.BigInteger;
import java.util.ArrayList;
import java.util.Arrays;
import java.util.List;

/** The document once more, written plainly and apart from the program, to be asked the same. */
final class Model {
    static final int BAD = -1, STATE = -2, FULL = -3, NONE = -4;
    private static final List<String> KINDS = List.of("plain", "sullen", "nun", "brother");

    /** All that an image holds, and the slips' texts. */
    private static final class State {
        List<Integer> kinds = new ArrayList<>();
        int[][] hatred = new int[5][5];
        int need = 20, noon = 8, step = 0, done = 0;
        boolean set = false;
        List<int[]> slips = new ArrayList<>();
        List<Integer> used = new ArrayList<>();
        List<int[]> plan = new ArrayList<>();
        List<int[]> seen = new ArrayList<>();

        State copy() {
            State s = new State();
            s.kinds = new ArrayList<>(kinds);
            for (int a = 0; a < 5; a++) {
                s.hatred[a] = hatred[a].clone();
            }
            s.need = need;
            s.noon = noon;
            s.step = step;
            s.done = done;
            s.set = set;
            s.slips = new ArrayList<>(slips);
            s.used = new ArrayList<>(used);
            s.plan = new ArrayList<>(plan);
            s.seen = new ArrayList<>(seen);
            return s;
        }

        int feels(int a, int b) {
            int h = hatred[a][b];
            int kind = kinds.get(a);
            return kind == 0 ? h : kind == 1 ? (h == 0 ? 0 : h - 1) : kind == 2 ? (h > 3 ? 3 : h) : h + h;
        }

        int turn(int a, int b) {
            int one = feels(a, b);
            int other = feels(b, a);
            return one < other ? one : other;
        }

        boolean rests() {
            return set || step >= noon;
        }

        void stir(int a, int b) {
            if (hatred[a][b] + hatred[b][a] == 0) {
                set = true;
            } else {
                done += turn(a, b);
                done = done > 999 ? 999 : done;
            }
            int[][] both = {{a, b}, {b, a}};
            for (int[] p : both) {
                int kind = kinds.get(p[0]);
                int less = kind == 3 ? 2 : kind == 1 && step % 2 == 0 ? 0 : 1;
                int h = hatred[p[0]][p[1]] - less;
                hatred[p[0]][p[1]] = h < 0 ? 0 : h;
            }
            step++;
        }

        State behind(List<int[]> row) {
            State s = copy();
            for (int[] p : row) {
                if (!s.rests()) {
                    s.stir(p[0], p[1]);
                }
            }
            return s;
        }

        int all() {
            int sum = 0;
            for (int[] row : hatred) {
                sum += Arrays.stream(row).sum();
            }
            return sum;
        }

        int slipNow(int i) {
            int[] s = slips.get(i);
            int h = hatred[s[0]][s[1]] + s[2];
            hatred[s[0]][s[1]] = h > 9 ? 9 : h;
            return hatred[s[0]][s[1]];
        }

        List<int[]> pairs() {
            List<int[]> all = new ArrayList<>();
            for (int n = 0; n < 100; n++) {
                if (n / 10 < n % 10 && n % 10 < kinds.size()) {
                    all.add(new int[] {n / 10, n % 10});
                }
            }
            return all;
        }
    }

    private static final class Fault extends Exception {
        private static final long serialVersionUID = 1L;
        final int kind, place;

        Fault(int kind, int place) {
            this.kind = kind;
            this.place = place;
        }
    }

    /** A text that is read a token at a time. */
    private static final class Letter {
        final String text;
        int at = 0;
        int start = 0;
        State s = new State();
        boolean pot = false;
        List<Integer> told = new ArrayList<>();
        int greatest = -1;

        Letter(String text) {
            this.text = text;
        }

        /** "" at the end. */
        String token() throws Fault {
            while (at < text.length() && text.charAt(at) == ' ') {
                at++;
            }
            start = at;
            String rest = text.substring(at);
            String t = rest.replaceFirst("(?s)^([a-z]+|[0-9]+|;|).*$", "$1");
            if (t.isEmpty() && !rest.isEmpty() || t.length() > 2 && Character.isDigit(t.charAt(0))) {
                throw new Fault(1, start);
            }
            at += t.length();
            return t;
        }

        int number(int least, int most, int not) throws Fault {
            String t = token();
            if (t.isEmpty() || !Character.isDigit(t.charAt(0))) {
                throw new Fault(2, start);
            }
            int n = Integer.parseInt(t);
            if (n < least || n > most || n == not) {
                throw new Fault(3, start);
            }
            return n;
        }

        int[] two() throws Fault {
            int a = number(0, 4, -1);
            int b = number(0, 4, a);
            greatest = Math.max(greatest, Math.max(a, b));
            return new int[] {a, b};
        }

        int read() throws Fault {
            int lines = 0;
            for (String t = token(); !t.isEmpty(); t = token()) {
                line(t);
                if (!token().equals(";")) {
                    throw new Fault(2, start);
                }
                lines++;
            }
            if (greatest >= s.kinds.size()) {
                throw new Fault(6, text.length());
            }
            return lines;
        }

        void line(String t) throws Fault {
            if (KINDS.contains(t)) {
                many(s.kinds.size(), 5);
                s.kinds.add(KINDS.indexOf(t));
            } else if (t.equals("hate") || t.equals("both")) {
                int[] p = two();
                boolean both = t.equals("both");
                if (told.contains(p[0] * 10 + p[1]) || both && told.contains(p[1] * 10 + p[0])) {
                    throw new Fault(4, start);
                }
                int h = number(0, 9, -1);
                told.add(p[0] * 10 + p[1]);
                s.hatred[p[0]][p[1]] = h;
                if (both) {
                    told.add(p[1] * 10 + p[0]);
                    s.hatred[p[1]][p[0]] = h;
                }
            } else if (t.equals("pot")) {
                if (pot) {
                    throw new Fault(4, start);
                }
                pot = true;
                s.need = number(1, 99, -1);
                s.noon = number(1, 12, -1);
            } else if (t.equals("slip")) {
                many(s.slips.size(), 6);
                int[] p = two();
                s.slips.add(new int[] {p[0], p[1], number(1, 9, -1)});
            } else if (t.equals("plan")) {
                many(s.plan.size(), 8);
                s.plan.add(two());
            } else {
                throw new Fault(2, start);
            }
        }

        void many(int have, int most) throws Fault {
            if (have == most) {
                throw new Fault(5, start);
            }
        }
    }

    private State now = new State();
    private final State[] images = new State[2];
    private String tape = "";
    private int fault = 0;
    private int torn = 0;
    private final Object[] sheets = new Object[4];

    private boolean is(int a) {
        return 0 <= a && a < now.kinds.size();
    }

    private boolean two(int a, int b) {
        return is(a) && is(b) && a != b;
    }

    private static boolean in(int v, int least, int most) {
        return least <= v && v <= most;
    }

    int feed(int c) {
        if (!in(c, 0, 127)) {
            return BAD;
        }
        if (tape.length() == 160) {
            return FULL;
        }
        tape += (char) c;
        return tape.length();
    }

    int end(int n) {
        if (!in(n, 0, tape.length())) {
            return BAD;
        }
        int had = tape.length();
        tape = tape.substring(0, n);
        return had;
    }

    int text() {
        Letter letter = new Letter(tape);
        tape = "";
        try {
            int lines = letter.read();
            now = letter.s;
            images[0] = null;
            images[1] = null;
            fault = 0;
            return lines;
        } catch (Fault f) {
            fault = f.kind;
            return -10 - f.place;
        }
    }

    int fault() {
        return fault;
    }

    int rule(int what) {
        if (!in(what, 0, 8)) {
            return BAD;
        }
        int bits = 0;
        for (int i : now.used) {
            bits += 1 << i;
        }
        int[] all = {now.kinds.size(), now.need, now.noon, now.step, now.done, now.set ? 1 : 0,
            now.slips.size(), bits, now.plan.size()};
        return all[what];
    }

    int helper(int a) {
        return is(a) ? now.kinds.get(a) : BAD;
    }

    int hatred(int a, int b, int what) {
        return !two(a, b) || !in(what, 0, 1) ? BAD : what == 0 ? now.hatred[a][b] : now.feels(a, b);
    }

    int slip(int i, int what) {
        if (!in(i, 0, now.slips.size() - 1) || !in(what, 0, 3)) {
            return BAD;
        }
        return what < 3 ? now.slips.get(i)[what] : now.used.contains(i) ? 1 : 0;
    }

    int plan(int i) {
        if (!in(i, 0, now.plan.size() - 1)) {
            return BAD;
        }
        int[] p = now.plan.get(i);
        return p[0] < p[1] ? 10 * p[0] + p[1] : 10 * p[1] + p[0];
    }

    int hate(int a, int b, int v) {
        if (!two(a, b) || !in(v, 0, 9)) {
            return BAD;
        }
        int was = now.hatred[a][b];
        now.hatred[a][b] = v;
        return was;
    }

    int use(int i) {
        if (!in(i, 0, now.slips.size() - 1)) {
            return BAD;
        }
        if (now.used.contains(i)) {
            return STATE;
        }
        now.used.add(i);
        return now.slipNow(i);
    }

    int tell(int a, int b) {
        if (!two(a, b)) {
            return BAD;
        }
        if (now.hatred[a][b] < now.hatred[b][a]) {
            now.hatred[a][b] = now.hatred[b][a];
        }
        return now.hatred[a][b];
    }

    int forgive(int a) {
        if (!is(a)) {
            return BAD;
        }
        int changed = (int) Arrays.stream(now.hatred[a]).filter(h -> h != 0).count();
        now.hatred[a] = new int[5];
        return changed;
    }

    int teach(int a, int kind) {
        return !is(a) || !in(kind, 0, 3) ? BAD : now.kinds.set(a, kind);
    }

    int set(int what, int v) {
        int was;
        if (what == 0 && in(v, 1, 99)) {
            was = now.need;
            now.need = v;
        } else if (what == 1 && in(v, 1, 12)) {
            if (now.step > v) {
                return STATE;
            }
            was = now.noon;
            now.noon = v;
        } else {
            return BAD;
        }
        return was;
    }

    int plans(int a, int b) {
        if (!two(a, b)) {
            return BAD;
        }
        if (now.plan.size() == 8) {
            return FULL;
        }
        now.plan.add(new int[] {a, b});
        return now.plan.size();
    }

    int cut(int n) {
        int had = now.plan.size();
        if (!in(n, 0, had)) {
            return BAD;
        }
        now.plan = new ArrayList<>(now.plan.subList(0, n));
        return had;
    }

    int turn(int a, int b) {
        return two(a, b) ? now.turn(a, b) : BAD;
    }

    int stir(int a, int b) {
        if (!two(a, b)) {
            return BAD;
        }
        if (now.rests()) {
            return STATE;
        }
        now.stir(a, b);
        return now.done;
    }

    int runs(int what) {
        if (!in(what, 0, 4)) {
            return BAD;
        }
        State s = now.behind(now.plan);
        if (what == 4) {
            for (int i = 0; i < now.plan.size(); i++) {
                if (now.behind(now.plan.subList(0, i)).rests()) {
                    return i;
                }
            }
            return NONE;
        }
        return new int[] {s.done, s.step, s.set ? 1 : 0, s.all()}[what];
    }

    int ahead(int a, int b, int n) {
        if (!two(a, b) || !in(n, 0, 12)) {
            return BAD;
        }
        List<int[]> row = new ArrayList<>();
        for (int i = 0; i < n; i++) {
            row.add(new int[] {a, b});
        }
        return now.behind(row).done;
    }

    int lasts(int a, int b) {
        if (!two(a, b)) {
            return BAD;
        }
        State s = now.copy();
        int n = 0;
        while (!s.set && s.turn(a, b) > 0) {
            s.stir(a, b);
            n++;
        }
        return n;
    }

    int three(int a, int b, int c) {
        if (!two(a, b) || !two(b, c) || !two(a, c)) {
            return BAD;
        }
        int one = Arrays.stream(new int[] {now.feels(a, b), now.feels(b, c), now.feels(c, a)}).min().getAsInt();
        int other = Arrays.stream(new int[] {now.feels(a, c), now.feels(c, b), now.feels(b, a)}).min().getAsInt();
        return one > other ? one : other;
    }

    private static void rows(List<int[]> pairs, int n, List<int[]> begun, List<List<int[]>> all) {
        if (n == 0) {
            all.add(new ArrayList<>(begun));
            return;
        }
        for (int[] p : pairs) {
            begun.add(p);
            rows(pairs, n - 1, begun, all);
            begun.remove(begun.size() - 1);
        }
    }

    private static int inRow(List<int[]> row, int i) {
        return i < row.size() ? 10 * row.get(i)[0] + row.get(i)[1] : NONE;
    }

    int best(int n, int what) {
        if (!in(n, 0, 4) || !in(what, 0, 1) && !in(what, 10, 13)) {
            return BAD;
        }
        List<List<int[]>> all = new ArrayList<>();
        rows(now.pairs(), n, new ArrayList<>(), all);
        List<int[]> found = new ArrayList<>();
        State end = null;
        for (List<int[]> row : all) {
            State s = now.behind(row);
            if (end == null || s.done > end.done || s.done == end.done && s.all() < end.all()) {
                end = s;
                found = row;
            }
        }
        if (end == null) {
            end = now;
        }
        return what == 0 ? end.done : what == 1 ? end.all() : inRow(found, what - 10);
    }

    int few(int what) {
        if (what != 0 && !in(what, 10, 13)) {
            return BAD;
        }
        for (int n = 0; n <= 4; n++) {
            List<List<int[]>> all = new ArrayList<>();
            rows(now.pairs(), n, new ArrayList<>(), all);
            for (List<int[]> row : all) {
                if (now.behind(row).done >= now.need) {
                    return what == 0 ? n : inRow(row, what - 10);
                }
            }
        }
        return NONE;
    }

    int slips(int what) {
        if (!in(what, 0, 1)) {
            return BAD;
        }
        for (int many = 0; many <= 6; many++) {
            for (int bits = 0; bits < 64; bits++) {
                if (Integer.bitCount(bits) == many && wouldDo(bits)) {
                    return what == 0 ? many : bits;
                }
            }
        }
        return NONE;
    }

    private boolean wouldDo(int bits) {
        State s = now.copy();
        for (int i = 0; i < 6; i++) {
            if ((bits & 1 << i) != 0) {
                if (i >= now.slips.size() || now.used.contains(i)) {
                    return false;
                }
                s.slipNow(i);
            }
        }
        return s.behind(s.plan).done >= s.need;
    }

    int mate(int a) {
        if (!is(a)) {
            return BAD;
        }
        for (int most = 18; most >= 0; most--) {
            for (int b = 0; b < now.kinds.size(); b++) {
                if (b != a && now.turn(a, b) == most) {
                    return b;
                }
            }
        }
        return NONE;
    }

    private int bestSum;
    private int[] bestMates;

    private void pair(int a, int[] mates, int sum) {
        if (a == now.kinds.size()) {
            if (sum > bestSum) {
                bestSum = sum;
                bestMates = mates.clone();
            }
            return;
        }
        pair(a + 1, mates, sum);
        for (int b = a + 1; mates[a] == NONE && b < now.kinds.size(); b++) {
            if (mates[b] == NONE) {
                mates[a] = b;
                mates[b] = a;
                pair(a + 1, mates, sum + now.turn(a, b));
                mates[a] = NONE;
                mates[b] = NONE;
            }
        }
    }

    int match(int what) {
        if (what != 0 && (what < 10 || !is(what - 10))) {
            return BAD;
        }
        bestSum = -1;
        int[] mates = new int[5];
        Arrays.fill(mates, NONE);
        pair(0, mates, 0);
        return what == 0 ? bestSum : bestMates[what - 10];
    }

    int see(int n, int v) {
        if (!in(n, 0, 9) || !in(v, 0, 18)) {
            return BAD;
        }
        if (now.seen.size() == 6) {
            return FULL;
        }
        now.seen.add(new int[] {n, v});
        return now.seen.size();
    }

    int forget(int n) {
        int had = now.seen.size();
        if (!in(n, 0, had)) {
            return BAD;
        }
        now.seen = new ArrayList<>(now.seen.subList(0, n));
        return had;
    }

    int fits(int a, int b, int what) {
        if (!two(a, b) || !in(what, 0, 2)) {
            return BAD;
        }
        List<Integer> fit = new ArrayList<>();
        for (int x = 0; x <= 9; x++) {
            for (int y = 0; y <= 9; y++) {
                boolean all = true;
                for (int[] seen : now.seen) {
                    State s = now.copy();
                    s.noon = Integer.MAX_VALUE;
                    s.hatred[a][b] = x;
                    s.hatred[b][a] = y;
                    for (int i = 0; i < seen[0]; i++) {
                        s = s.behind(List.of(new int[] {a, b}));
                    }
                    all &= s.turn(a, b) == seen[1];
                }
                if (all) {
                    fit.add(10 * x + y);
                }
            }
        }
        if (what == 0) {
            return fit.size();
        }
        return fit.isEmpty() ? NONE : fit.get(what == 1 ? 0 : fit.size() - 1);
    }

    int forgave(int v) {
        if (!in(v, 0, 999)) {
            return BAD;
        }
        int bits = 0;
        for (int a = 0; a < now.kinds.size(); a++) {
            State s = now.copy();
            s.hatred[a] = new int[5];
            bits += s.behind(s.plan).done == v ? 1 << a : 0;
        }
        return bits;
    }

    /** Over a denominator of ten to the steps that are left; love and no love are two branches. */
    private BigInteger sum(State s, int v, int a, int b, int left, boolean need) {
        BigInteger worth = BigInteger.valueOf(need ? (s.done >= s.need ? 1 : 0) : s.done);
        if (left == 0) {
            return worth;
        }
        if (s.rests()) {
            return worth.multiply(BigInteger.TEN.pow(left));
        }
        State loved = s.copy();
        loved.hatred[a][b] = 0;
        loved.hatred[b][a] = 0;
        loved.stir(a, b);
        State not = s.copy();
        not.stir(a, b);
        return sum(loved, v, a, b, left - 1, need).multiply(BigInteger.valueOf(v))
                .add(sum(not, v, a, b, left - 1, need).multiply(BigInteger.valueOf(10 - v)));
    }

    private long love(int v, int a, int b, int what, boolean need) {
        if (!in(v, 0, 10) || !two(a, b) || !in(what, 0, 1)) {
            return BAD;
        }
        int left = now.noon - now.step;
        BigInteger all = BigInteger.TEN.pow(left);
        BigInteger part = sum(now, v, a, b, left, need);
        return (what == 0 ? part : all).divide(part.gcd(all)).longValueExact();
    }

    long luck(int v, int a, int b, int what) {
        return love(v, a, b, what, true);
    }

    long mean(int v, int a, int b, int what) {
        return love(v, a, b, what, false);
    }

    int drift(int seed, int n, int what) {
        if (!in(n, 1, 60) || !in(what, 0, 1)) {
            return BAD;
        }
        int h = now.kinds.size();
        if (h < 2) {
            return STATE;
        }
        State s = now.copy();
        BigInteger grown = BigInteger.valueOf(seed);
        for (int i = 0; i < n; i++) {
            grown = grow(grown);
            int a = grown.shiftRight(16).intValue() % h;
            grown = grow(grown);
            int b = grown.shiftRight(16).intValue() % h;
            b = a == b ? (b + 1 == h ? 0 : b + 1) : b;
            if (!s.set) {
                s.stir(a, b);
            }
        }
        return what == 0 ? s.done : s.all();
    }

    /** Modulo two to the 31st, so that bits 16 and above are bits 16 to 30. */
    private static BigInteger grow(BigInteger seed) {
        return seed.multiply(BigInteger.valueOf(1103515245)).add(BigInteger.valueOf(12345))
                .mod(BigInteger.ONE.shiftLeft(31));
    }

    int keep(int k) {
        if (!in(k, 0, 1)) {
            return BAD;
        }
        int was = images[k] == null ? 0 : 1;
        images[k] = now.copy();
        return was;
    }

    int back(int k) {
        if (!in(k, 0, 1)) {
            return BAD;
        }
        if (images[k] == null) {
            return STATE;
        }
        now = images[k].copy();
        return now.done;
    }

    int sheet(int k, int lane, int n) {
        if (!in(k, 0, 3) || !in(lane, 0, 2) || n > 40) {
            return BAD;
        }
        if (n < 0) {
            return -14;
        }
        sheets[k] = lane == 0 ? new byte[n] : lane == 1 ? new short[n] : new int[n];
        return 1;
    }

    /** Here, in the test's own model, the machine may tell its faults itself. */
    int lay(int k, int i, int v) {
        if (!in(k, 0, 3)) {
            return BAD;
        }
        try {
            if (sheets[k] instanceof byte[] row) {
                row[i] = (byte) v;
            } else if (sheets[k] instanceof short[] row) {
                row[i] = (short) v;
            } else {
                ((int[]) sheets[k])[i] = v;
            }
            return 1;
        } catch (NullPointerException e) {
            return -11;
        } catch (ArrayIndexOutOfBoundsException e) {
            return -12;
        }
    }

    private int cell(int k, int lane, int i) {
        return lane == 0 ? ((byte[]) sheets[k])[i] : lane == 1 ? ((short[]) sheets[k])[i] : ((int[]) sheets[k])[i];
    }

    int read(int k, int lane, int f, int n) {
        if (!in(k, 0, 3) || !in(lane, 0, 2) || !in(n, 0, 12)) {
            return BAD;
        }
        State was = now.copy();
        int met = 0;
        int i = 0;
        try {
            for (; i < n; i++) {
                int a = cell(k, lane, f + 2 * i);
                int b = cell(k, lane, f + 2 * i + 1);
                if (stir(a, b) < 0) {
                    now = was;
                    return -20 - i;
                }
            }
        } catch (NullPointerException e) {
            met = 1;
        } catch (ArrayIndexOutOfBoundsException e) {
            met = 2;
        } catch (ClassCastException e) {
            met = 3;
        }
        torn = met;
        return i;
    }

    int torn() {
        return torn;
    }

    int count(int what) {
        switch (what) {
            case 0: return now.all();
            case 1: return now.seen.size();
            case 2: return (images[0] == null ? 0 : 1) + (images[1] == null ? 0 : 1);
            case 3: return tape.length();
            case 4: return sheets[0] == null ? NONE : java.lang.reflect.Array.getLength(sheets[0]);
            default: return BAD;
        }
    }
}
