import java.util.ArrayList;
import java.util.HashMap;
import java.util.List;
import java.util.Map;

/** The document once more, in the plainest Java that does not care what it costs. */
final class Model {
    static final class No extends RuntimeException {
        private static final long serialVersionUID = 1;

        final int k;

        No(int k) {
            super(null, null, false, false);
            this.k = k;
        }
    }

    static final class World {
        List<Integer> rises = new ArrayList<>(List.of(1, 1, 1, 1, 1, 1, 1, 1));
        int none = -1;
        long minute = 0;
        List<int[]> climbers = new ArrayList<>();
        Map<Integer, String> texts = new HashMap<>();
        String tape = "";
        List<Integer> waiting = new ArrayList<>();
        int z = 1;

        World twin() {
            World w = new World();
            w.rises = new ArrayList<>(rises);
            w.none = none;
            w.minute = minute;
            for (int[] c : climbers) {
                w.climbers.add(c.clone());
            }
            w.texts = new HashMap<>(texts);
            w.tape = tape;
            w.waiting = new ArrayList<>(waiting);
            w.z = z;
            return w;
        }
    }

    static final class Sheet {
        final int bits;
        final int[] row;

        Sheet(int bits, int n) {
            this.bits = bits;
            this.row = new int[n];
        }
    }

    private static final String[] NAMES = {"rst", "shc"};

    World w = new World();
    World image = null;
    int images = 0;
    final Sheet[] sheets = new Sheet[4];
    List<Integer> trace = new ArrayList<>();
    final int[] told = new int[7];

    private static void want(boolean right, int k) {
        if (!right) {
            throw new No(k);
        }
    }

    private static boolean in(long v, long a, long b) {
        return a <= v && v <= b;
    }

    private int n() {
        return w.rises.size();
    }

    private void wantClimber(int c) {
        want(in(c, 0, w.climbers.size() - 1), 1);
    }

    private void wantStep(int s) {
        want(in(s, 0, n() - 1), 1);
    }

    private Sheet wantSheet(int s) {
        want(in(s, 0, 3), 1);
        want(sheets[s] != null, 2);
        return sheets[s];
    }

    int call(String name, long... a) {
        try {
            return (int) answer(name, a);
        } catch (No no) {
            told[no.k]++;
            return -1000000000 - no.k;
        }
    }

    private long answer(String name, long[] l) {
        int[] a = new int[6];
        for (int i = 0; i < l.length; i++) {
            a[i] = (int) l[i];
        }
        switch (name) {
            case "build": return build(a[0]);
            case "rise": wantStep(a[0]); want(in(a[1], -9, 9), 1); return w.rises.set(a[0], a[1]);
            case "stepIs": wantStep(a[0]); want(in(a[1], 0, 2), 1); return stepIs(a[0], a[1]);
            case "hide": want(in(a[0], -1, n() - 1), 1); int was = w.none; w.none = a[0]; return was;
            case "climber": want(in(a[0], 0, 69), 1); wantStep(a[1]); want(w.climbers.size() < 6, 4);
                w.climbers.add(new int[] {a[0] / 10, a[0] % 10, a[1], 0}); return w.climbers.size() - 1;
            case "climberIs": wantClimber(a[0]); want(in(a[1], 0, 4), 1);
                return a[1] < 4 ? w.climbers.get(a[0])[a[1]] : goes(w, a[0]);
            case "become": wantClimber(a[0]); want(in(a[1], 0, 69), 1); int[] b = w.climbers.get(a[0]); int kind = b[0];
                b[0] = a[1] / 10; b[1] = a[1] % 10; return kind;
            case "as": return as(a[0], a[1]);
            case "carry": wantClimber(a[0]); wantStep(a[1]); int from = w.climbers.get(a[0])[2];
                w.climbers.get(a[0])[2] = a[1]; return from;
            case "height": wantClimber(a[0]); want(in(a[1], -9999, 9999), 1); int h = w.climbers.get(a[0])[3];
                w.climbers.get(a[0])[3] = a[1]; return h;
            case "feed": return feed(l[0], a[1]);
            case "text": return text(a[0]);
            case "untell": want(in(a[0], 0, 1), 1); return w.texts.remove(a[0]) == null ? 0 : 1;
            case "law": want(in(a[0], 0, 1), 1); return law(w, a[0], a[1], a[2], a[3]);
            case "minutes": want(in(a[0], 1, 200), 1); want(w.minute + a[0] <= 9999, 3);
                for (int i = 0; i < a[0]; i++) { minute(w); } return pairs(w);
            case "loose": want(in(a[0], 1, 40), 1); want(w.minute + a[0] <= 9999, 3);
                for (int i = 0; i < a[0]; i++) { shove(); minute(w); } return pairs(w);
            case "seed": int z = w.z; w.z = a[0]; return z;
            default: return thought(name, a);
        }
    }

    private long thought(String name, int[] a) {
        switch (name) {
            case "then": want(in(a[0], 0, 200), 1); wantClimber(a[1]); want(in(a[2], 0, 1), 1);
                return on(w, a[0]).climbers.get(a[1])[2 + a[2]];
            case "meet": wantPair(a[0], a[1]); int met = met(w, a[0], a[1], 200); want(met >= 0, 2); return met;
            case "lap": return lap(a[0], a[1]);
            case "together": return together();
            case "dispute": return dispute();
            case "levels": return levels(a[0], a[1]);
            case "suspects": return suspects(a[0], a[1]);
            case "best": return best(a[0], a[1], a[2]);
            case "odds": return odds(a[0], a[1], a[2], a[3]);
            default: return rest(name, a);
        }
    }

    private long rest(String name, int[] a) {
        switch (name) {
            case "voice": return voice(a[0], a[1], a[2]);
            case "body": want(in(a[0], 0, trace.size() - 1), 2); return trace.get(a[0]);
            case "sheet": return sheet(a[0], a[1], a[2]);
            case "put": Sheet s = wantSheet(a[0]); want(in(a[1], 0, s.row.length - 1), 1);
                s.row[a[1]] = s.bits == 8 ? (byte) a[2] : s.bits == 16 ? (short) a[2] : a[2]; return 1;
            case "move": return move(a);
            case "rises": return rises(wantSheet(a[0]));
            case "judge": return judge(wantSheet(a[0]));
            case "image": image = w.twin(); return ++images;
            case "restore": want(image != null, 2); w = image.twin(); return w.minute;
            case "tell": want(w.waiting.size() < 24, 4); w.waiting.add(a[0]); return w.waiting.size();
            case "check": return check();
            case "count": want(in(a[0], 0, 8), 1);
                return new long[] {w.climbers.size(), n(), w.minute, w.none, pairs(w), w.tape.length(), w.waiting.size(),
                    trace.size(), w.z}[a[0]];
            case "told": want(in(a[0], 1, 6), 1); return told[a[0]];
            default: throw new IllegalStateException(name);
        }
    }

    private int build(int n) {
        want(in(n, 4, 14), 1);
        want(w.climbers.isEmpty(), 3);
        int had = n();
        w.rises = new ArrayList<>();
        for (int i = 0; i < n; i++) {
            w.rises.add(1);
        }
        w.none = -1;
        return had;
    }

    private int stepIs(int step, int what) {
        if (what == 0) {
            return w.rises.get(step);
        }
        if (what == 1) {
            return w.none == step ? 1 : 0;
        }
        return (int) w.climbers.stream().filter(c -> c[2] == step).count();
    }

    private int as(int climber, int kind) {
        wantClimber(climber);
        want(in(kind, 0, 6), 1);
        want(type(kind).isInstance(person(climber)), 5);
        return w.climbers.get(climber)[1];
    }

    // ---- texts, read by cutting them where the weakest sign stands

    private int feed(long word, int n) {
        want(in(n, 1, 8), 1);
        want(w.tape.length() + n <= 60, 4);
        for (int i = 0; i < n; i++) {
            w.tape += (char) (word & 0xFF);
            word >>= 8;
        }
        return w.tape.length();
    }

    private int text(int use) {
        want(in(use, 0, 1), 1);
        String tape = w.tape;
        w.tape = "";
        if (isText(tape, use)) {
            w.texts.put(use, tape);
            return 1;
        }
        return -10 - fault(tape, use);
    }

    static int fault(String tape, int use) {
        for (int i = 1; i <= tape.length(); i++) {
            if (!goesOn(tape.substring(0, i), use)) {
                return i - 1;
            }
        }
        return tape.length();
    }

    private static boolean goesOn(String start, int use) {
        String close = "";
        for (int i = 0; i <= 5; i++) {
            if (isText(start + close, use) || isText(start + "1" + close, use)) {
                return true;
            }
            close += ")";
        }
        return false;
    }

    static boolean isText(String s, int use) {
        return work(s, use, 0, 0, new int[3]) != null;
    }

    private static final String[] SIGNS = {"|", "&", "<=>", "+-", "*/%"};

    /** The value, or null if it is no text. */
    private static Integer work(String s, int use, int level, int open, int[] names) {
        if (level == 5) {
            return workQ(s, use, open, names);
        }
        int cut = -1;
        int cuts = 0;
        int deep = 0;
        for (int i = 0; i < s.length(); i++) {
            char c = s.charAt(i);
            deep += c == '(' ? 1 : c == ')' ? -1 : 0;
            if (deep < 0) {
                return null;
            }
            if (deep == 0 && SIGNS[level].indexOf(c) >= 0) {
                cut = i;
                cuts++;
            }
        }
        if (cut < 0) {
            return work(s, use, level + 1, open, names);
        }
        if (level == 2 && cuts > 1) {
            return null;
        }
        Integer left = work(s.substring(0, cut), use, level, open, names);
        Integer right = work(s.substring(cut + 1), use, level + 1, open, names);
        return left == null || right == null ? null : (Integer) joined(s.charAt(cut), left, right);
    }

    private static Integer workQ(String s, int use, int open, int[] names) {
        if (s.matches("[0-9]{1,4}")) {
            return Integer.parseInt(s);
        }
        if (s.length() == 1 && NAMES[use].contains(s)) {
            return names[NAMES[use].indexOf(s)];
        }
        if (s.startsWith("!") && open < 5) {
            Integer v = workQ(s.substring(1), use, open + 1, names);
            return v == null ? null : (Integer) (v == 0 ? 1 : 0);
        }
        if (s.startsWith("(") && s.endsWith(")") && s.length() > 1 && open < 5) {
            return work(s.substring(1, s.length() - 1), use, 0, open + 1, names);
        }
        return null;
    }

    private static int joined(char sign, int a, int b) {
        switch (sign) {
            case '|': return a != 0 || b != 0 ? 1 : 0;
            case '&': return a != 0 && b != 0 ? 1 : 0;
            case '<': return a < b ? 1 : 0;
            case '=': return a == b ? 1 : 0;
            case '>': return a > b ? 1 : 0;
            case '+': return a + b;
            case '-': return a - b;
            case '*': return a * b;
            case '/': return b == 0 ? 0 : (int) ((long) a / b);
            default: return b == 0 ? 0 : (int) ((long) a % b);
        }
    }

    private static int law(World w, int use, int a, int b, int c) {
        String text = w.texts.get(use);
        int v = text == null ? use == 0 ? a : b : work(text, use, 0, 0, new int[] {a, b, c});
        int least = use == 0 ? -99 : 0;
        int most = use == 0 ? 99 : 999;
        return v < least ? least : v > most ? most : v;
    }

    // ---- minutes

    private static int goes(World w, int climber) {
        int[] c = w.climbers.get(climber);
        switch (c[0]) {
            case 1: case 4: return 1 + c[1] % 3;
            case 2: return -1;
            case 3: return w.minute % (c[1] + 1) == 0 ? -1 : 1;
            case 5: return -(2 + c[1] % 3);
            case 6: return w.minute % 4 == 0 ? c[1] + 1 : 0;
            default: return 1;
        }
    }

    private static int tally(World w, int kind, int step) {
        if (step == w.none) {
            return 0;
        }
        int v = law(w, 0, w.rises.get(step), step, (int) w.minute);
        return kind == 4 ? Integer.signum(v) : kind == 5 ? v + v : kind == 6 ? 0 : v;
    }

    private static void minute(World w) {
        int n = w.rises.size();
        for (int i = 0; i < w.climbers.size(); i++) {
            int[] c = w.climbers.get(i);
            int goes = goes(w, i);
            for (int g = goes; g != 0; g -= Integer.signum(goes)) {
                if (goes > 0) {
                    c[3] += tally(w, c[0], c[2]);
                    c[2] = (c[2] + 1) % n;
                } else {
                    c[2] = (c[2] + n - 1) % n;
                    c[3] -= tally(w, c[0], c[2]);
                }
                c[3] = Math.min(9999, Math.max(-9999, c[3]));
            }
        }
        w.minute++;
    }

    private int draw() {
        w.z = (int) (w.z * 1103515245L + 12345L);
        return (int) ((w.z & 0xFFFFFFFFL) / 256);
    }

    private void shove() {
        if (!w.climbers.isEmpty()) {
            int[] c = w.climbers.get(draw() % w.climbers.size());
            c[2] = draw() % n();
        }
    }

    private static int pairs(World w) {
        int twice = 0;
        for (int[] a : w.climbers) {
            for (int[] b : w.climbers) {
                twice += a != b && a[2] == b[2] ? 1 : 0;
            }
        }
        return twice / 2;
    }

    // ---- what would be

    private static World on(World from, int minutes) {
        World t = from.twin();
        for (int i = 0; i < minutes; i++) {
            minute(t);
        }
        return t;
    }

    private void wantPair(int one, int other) {
        wantClimber(one);
        wantClimber(other);
        want(one != other, 1);
    }

    private static int met(World from, int one, int other, int most) {
        World t = from.twin();
        for (int i = 0; i <= most; i++) {
            if (t.climbers.get(one)[2] == t.climbers.get(other)[2]) {
                return i;
            }
            minute(t);
        }
        return -1;
    }

    private int lap(int climber, int what) {
        wantClimber(climber);
        want(in(what, 0, 1), 1);
        World t = w.twin();
        for (int i = 1; i <= 200; i++) {
            minute(t);
            int[] c = t.climbers.get(climber);
            if (c[2] == w.climbers.get(climber)[2]) {
                return what == 0 ? i : c[3] - w.climbers.get(climber)[3];
            }
        }
        throw new No(2);
    }

    private int together() {
        want(!w.climbers.isEmpty(), 3);
        World t = w.twin();
        for (int i = 0; i <= 500; i++) {
            if (t.climbers.stream().mapToInt(c -> c[2]).distinct().count() == 1) {
                return i;
            }
            minute(t);
        }
        throw new No(2);
    }

    private int dispute() {
        World t = w.twin();
        for (int i = 0; i <= 200; i++) {
            for (int[] a : t.climbers) {
                for (int[] b : t.climbers) {
                    if (a[2] == b[2] && a[3] != b[3]) {
                        return i;
                    }
                }
            }
            minute(t);
        }
        throw new No(2);
    }

    private int levels(int v, int what) {
        want(in(v, -126, 126) && in(what, 0, 1), 1);
        int best = -1;
        for (int set = 0; set < 1 << n(); set++) {
            int sum = 0;
            for (int i = 0; i < n(); i++) {
                sum += (set >> i & 1) == 1 ? 0 : w.rises.get(i);
            }
            if (sum == v && (best < 0 || Integer.bitCount(set) < Integer.bitCount(best))) {
                best = set;
            }
        }
        want(best >= 0, 2);
        return what == 0 ? Integer.bitCount(best) : best;
    }

    private int suspects(int climber, int sheet) {
        wantClimber(climber);
        Sheet s = wantSheet(sheet);
        int set = 0;
        for (int i = 0; i <= n(); i++) {
            World t = w.twin();
            t.none = i == n() ? -1 : i;
            boolean so = true;
            for (int v : s.row) {
                minute(t);
                so &= t.climbers.get(climber)[3] == v;
            }
            set += so ? 1 << i : 0;
        }
        return set;
    }

    private int best(int climber, int n, int what) {
        wantClimber(climber);
        want(in(n, 0, 100) && in(what, 0, 2), 1);
        World t = w.twin();
        int[] best = null;
        for (int i = 0; i <= n; i++) {
            int[] c = t.climbers.get(climber);
            int worth = law(t, 1, c[2], c[3], climber);
            if (best == null || worth > best[0]) {
                best = new int[] {worth, i, c[2]};
            }
            minute(t);
        }
        return best[what];
    }

    private int odds(int one, int other, int n, int part) {
        wantPair(one, other);
        want(in(n, 0, 100) && in(part, 0, 1), 1);
        int met = 0;
        for (int i = 0; i < n(); i++) {
            World t = w.twin();
            t.climbers.get(one)[2] = i;
            met += met(t, one, other, n) >= 0 ? 1 : 0;
        }
        int a = n();
        int b = met;
        while (b != 0) {
            int r = a % b;
            a = b;
            b = r;
        }
        return (part == 0 ? met : n()) / a;
    }

    // ---- voices, as classes under classes

    private class Porter {
        final int k;
        final int m;

        Porter(int k, int m) {
            this.k = k;
            this.m = m;
        }

        void on(int body) {
            trace.add(body);
        }

        int pants(int x) { on(10); return x + k; }

        int counts(int x) { on(11); return pants(x) * 2; }

        int swears(int x) { on(12); return counts(x) - m; }

        int parts(int x) {
            on(13);
            want(m != k, 6);
            return x / (m - k);
        }
    }

    private class Runner extends Porter {
        Runner(int k, int m) { super(k, m); }

        @Override int pants(int x) { on(20); return super.pants(x) - 4; }

        @Override int parts(int x) { on(21); return super.parts(x) + counts(1); }
    }

    private class Descender extends Porter {
        Descender(int k, int m) { super(k, m); }

        @Override int counts(int x) { on(30); return 0 - super.counts(x); }
    }

    private class Drunk extends Porter {
        Drunk(int k, int m) { super(k, m); }

        @Override int swears(int x) { on(40); return super.swears(x / 2); }
    }

    private class Skipper extends Runner {
        Skipper(int k, int m) { super(k, m); }

        @Override int pants(int x) { on(50); return super.pants(x) * 3; }

        @Override int swears(int x) { on(51); return super.swears(x) ^ k; }
    }

    private class Ball extends Descender {
        Ball(int k, int m) { super(k, m); }

        @Override int counts(int x) { on(60); return super.counts(x + 1); }
    }

    private class Lift extends Porter {
        Lift(int k, int m) { super(k, m); }

        @Override int pants(int x) { on(70); return 9; }

        @Override int counts(int x) { on(71); return super.counts(x) + m; }
    }

    private Class<?> type(int kind) {
        return new Class<?>[] {Porter.class, Runner.class, Descender.class, Drunk.class, Skipper.class, Ball.class, Lift.class}[kind];
    }

    private Porter person(int climber) {
        int m = w.climbers.get(climber)[1];
        switch (w.climbers.get(climber)[0]) {
            case 0: return new Porter(climber, m);
            case 1: return new Runner(climber, m);
            case 2: return new Descender(climber, m);
            case 3: return new Drunk(climber, m);
            case 4: return new Skipper(climber, m);
            case 5: return new Ball(climber, m);
            default: return new Lift(climber, m);
        }
    }

    private int voice(int climber, int voice, int x) {
        wantClimber(climber);
        want(in(voice, 0, 3), 1);
        trace = new ArrayList<>();
        Porter p = person(climber);
        return voice == 0 ? p.pants(x) : voice == 1 ? p.counts(x) : voice == 2 ? p.swears(x) : p.parts(x);
    }

    // ---- sheets

    private int sheet(int sheet, int bits, int n) {
        want(in(sheet, 0, 3) && List.of(0, 8, 16, 32).contains(bits), 1);
        if (bits == 0) {
            sheets[sheet] = null;
            return 1;
        }
        want(n >= 0, 3);
        want(n <= 24, 1);
        sheets[sheet] = new Sheet(bits, n);
        return 1;
    }

    private int move(int[] a) {
        want(in(a[0], 0, 3) && in(a[2], 0, 3), 1);
        Sheet s = wantSheet(a[0]);
        Sheet o = wantSheet(a[2]);
        want(s.bits == o.bits, 5);
        want(a[1] >= 0 && a[3] >= 0 && a[4] >= 0, 1);
        want((long) a[1] + a[4] <= s.row.length && (long) a[3] + a[4] <= o.row.length, 1);
        int[] old = s.row.clone();
        for (int i = 0; i < a[4]; i++) {
            o.row[a[3] + i] = old[a[1] + i];
        }
        return a[4];
    }

    private int rises(Sheet s) {
        int done = 0;
        while (done < s.row.length && done < n() && in(s.row[done], -9, 9)) {
            w.rises.set(done, s.row[done]);
            done++;
        }
        return done;
    }

    private int judge(Sheet s) {
        int right = 0;
        while (right < s.row.length && right < w.climbers.size() && s.row[right] == w.climbers.get(right)[2]) {
            right++;
        }
        return right;
    }

    private int check() {
        List<Integer> said = w.waiting;
        w.waiting = new ArrayList<>();
        for (int i = 0; i < said.size(); i++) {
            if (i >= w.climbers.size() || said.get(i) != w.climbers.get(i)[3]) {
                return 1 + i;
            }
        }
        return 0;
    }
}
