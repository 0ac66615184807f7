import java.lang.reflect.InvocationTargetException;
import java.lang.reflect.Method;
import java.util.Map;
import java.util.TreeMap;

/** Long runs of calls, drawn by a fixed row of numbers, against the model. */
public final class ModelTest {
    private static final int RUNS = 500;
    private static final int CALLS = 512;
    private static final int FAULTS = 20000;
    private static final int[] ODD = {Integer.MIN_VALUE, Integer.MAX_VALUE, -1, -2, 1 << 30, -1000000001, 65536, 256, -128, 1000};
    private static final String SIGNS = "rsthc0123456789|&<=>+-*/%!()";

    private static long state = 20261118;

    public static void main(String[] args) throws ReflectiveOperationException {
        Map<String, Method> face = new TreeMap<>();
        for (Method m : UpAllRound.class.getDeclaredMethods()) {
            if (java.lang.reflect.Modifier.isPublic(m.getModifiers())) {
                face.put(m.getName(), m);
            }
        }
        Due due = new Due();
        for (int i = 0; i < RUNS; i++) {
            run(due, face, i);
        }
        for (int i = 0; i < FAULTS; i++) {
            fault(due);
        }
        due.end();
    }

    private static int draw(int n) {
        state = state * 6364136223846793005L + 1442695040888963407L;
        return (int) ((state >>> 33) % n);
    }

    private static int between(int a, int b) {
        return a + draw(b - a + 1);
    }

    private static void run(Due due, Map<String, Method> face, int run) throws ReflectiveOperationException {
        UpAllRound x = new UpAllRound();
        Model model = new Model();
        String[] names = face.keySet().toArray(new String[0]);
        int wild = run % 4 == 0 ? 3 : 25;
        if (run % 2 == 0) {
            one(due, face.get("build"), x, model, run, new long[] {between(4, 14)});
            for (int i = between(1, 6); i > 0; i--) {
                one(due, face.get("climber"), x, model, run, new long[] {between(0, 69), between(0, 7)});
            }
        }
        for (int i = 0; i < CALLS - 32; i++) {
            String name = names[draw(names.length)];
            if (name.equals("levels") && draw(4) != 0) {
                continue;
            }
            if (name.equals("text") && draw(3) != 0) {
                i += feedText(due, face.get("feed"), x, model, run);
            }
            if (x.count(0) > 0 && draw(2) == 0) {
                i += tellTruth(due, face, name, x, model, run);
            }
            one(due, face.get(name), x, model, run, arguments(name, x, wild));
        }
    }

    /** What draws alone would hardly hit on: numbers that are so, or nearly all so. */
    private static int tellTruth(Due due, Map<String, Method> face, String name, UpAllRound x, Model model, int run)
            throws ReflectiveOperationException {
        int n = between(1, 8);
        if (name.equals("suspects")) {
            int climber = draw(x.count(0));
            one(due, face.get("hide"), x, model, run, new long[] {between(-1, x.count(1) - 1)});
            one(due, face.get("sheet"), x, model, run, new long[] {0, 32, n});
            for (int i = 0; i < n; i++) {
                one(due, face.get("put"), x, model, run, new long[] {0, i, x.then(i + 1, climber, 1)});
            }
            one(due, face.get("suspects"), x, model, run, new long[] {climber, 0});
            return n + 3;
        }
        if (name.equals("judge")) {
            one(due, face.get("sheet"), x, model, run, new long[] {0, 8, n});
            for (int i = 0; i < n; i++) {
                one(due, face.get("put"), x, model, run, new long[] {0, i, i < x.count(0) ? x.climberIs(i, 2) : draw(4)});
            }
            one(due, face.get("judge"), x, model, run, new long[] {0});
            return n + 2;
        }
        if (name.equals("check")) {
            one(due, face.get("check"), x, model, run, new long[0]);
            for (int i = 0; i < n; i++) {
                one(due, face.get("tell"), x, model, run, new long[] {i < x.count(0) ? x.climberIs(i, 3) : 0});
            }
            return n + 1;
        }
        return 0;
    }

    private static int feedText(Due due, Method feed, UpAllRound x, Model model, int run) throws ReflectiveOperationException {
        String text = text(draw(4));
        int calls = 0;
        for (int at = 0; at < text.length(); at += 8) {
            long word = 0;
            int n = Math.min(8, text.length() - at);
            for (int j = n - 1; j >= 0; j--) {
                word = word << 8 | text.charAt(at + j);
            }
            one(due, feed, x, model, run, new long[] {word, n});
            calls++;
        }
        return calls;
    }

    /** A text, mostly whole, for one use or the other. */
    private static String text(int deep) {
        if (deep == 0) {
            return draw(3) == 0 ? Integer.toString(draw(draw(4) == 0 ? 10000 : 12)) : String.valueOf("rstshc".charAt(draw(6)));
        }
        String a = text(deep - 1);
        switch (draw(8)) {
            case 0: return "!" + (a.length() == 1 ? a : "(" + a + ")");
            case 1: return "(" + a + ")";
            case 2: return a + SIGNS.charAt(15 + draw(13)) + a;
            default: return a + "|&<=>+-*/%+-*".charAt(draw(13)) + text(draw(deep));
        }
    }

    private static long[] arguments(String name, UpAllRound x, int wild) {
        int step = between(0, x.count(1) - 1);
        int climber = between(0, Math.max(0, x.count(0) - 1));
        int other = between(0, Math.max(0, x.count(0) - 1));
        int sheet = draw(4);
        long[] a = ordinary(name, step, climber, other, sheet);
        for (int i = 0; i < a.length; i++) {
            if (draw(wild) == 0 && !name.equals("feed")) {
                a[i] = draw(2) == 0 ? ODD[draw(ODD.length)] : a[i] + between(-2, 2);
            } else if (draw(wild) == 0) {
                a[i] += between(-9, 9);
            }
        }
        return a;
    }

    private static long[] ordinary(String name, int step, int climber, int other, int sheet) {
        switch (name) {
            case "build": return new long[] {between(4, 14)};
            case "rise": return new long[] {step, between(-9, 9)};
            case "stepIs": return new long[] {step, draw(3)};
            case "hide": return new long[] {between(-1, step)};
            case "climber": return new long[] {between(0, 69), step};
            case "climberIs": return new long[] {climber, draw(5)};
            case "become": return new long[] {climber, between(0, 69)};
            case "as": return new long[] {climber, draw(7)};
            case "carry": return new long[] {climber, step};
            case "height": return new long[] {climber, draw(3) == 0 ? between(-9999, 9999) : between(-3, 3)};
            case "feed": return new long[] {SIGNS.charAt(draw(SIGNS.length())), 1};
            case "text": case "untell": return new long[] {draw(2)};
            case "law": return new long[] {draw(2), between(-9, 9), between(-9, 9), between(-9, 9)};
            case "minutes": return new long[] {draw(3) == 0 ? between(1, 200) : between(1, 5)};
            case "loose": return new long[] {between(1, 40)};
            case "seed": return new long[] {draw(1 << 30)};
            case "then": return new long[] {between(0, 200), climber, draw(2)};
            case "meet": return new long[] {climber, other};
            case "lap": return new long[] {climber, draw(2)};
            case "levels": return new long[] {between(-40, 40), draw(2)};
            case "suspects": return new long[] {climber, sheet};
            case "best": return new long[] {climber, between(0, 100), draw(3)};
            case "odds": return new long[] {climber, other, draw(2) == 0 ? between(0, 100) : between(0, 6), draw(2)};
            case "voice": return new long[] {climber, draw(4), between(-99, 99)};
            case "body": return new long[] {draw(6)};
            case "sheet": return new long[] {sheet, new int[] {0, 8, 8, 8, 16, 32}[draw(6)], between(0, draw(2) == 0 ? 4 : 24)};
            case "put": return new long[] {sheet, draw(5), between(-10, 10)};
            case "move": return new long[] {sheet, draw(4), draw(4), draw(4), draw(4)};
            case "rises": case "judge": return new long[] {sheet};
            case "tell": return new long[] {between(-2, 2)};
            case "count": return new long[] {draw(9)};
            case "told": return new long[] {between(1, 6)};
            default: return new long[0];
        }
    }

    private static void one(Due due, Method m, UpAllRound x, Model model, int run, long[] a) throws ReflectiveOperationException {
        Object[] given = new Object[a.length];
        for (int i = 0; i < a.length; i++) {
            if (m.getParameterTypes()[i] == long.class) {
                given[i] = a[i];
            } else {
                given[i] = (int) a[i];
            }
        }
        try {
            due.is("run " + run + " " + m.getName() + java.util.Arrays.toString(a), (int) m.invoke(x, given), model.call(m.getName(), a));
        } catch (InvocationTargetException e) {
            due.is("run " + run + " " + m.getName() + java.util.Arrays.toString(a) + " threw " + e.getCause(), 1, 0);
        }
    }

    /** Texts with a byte or two changed, and what the reader says of them. */
    private static void fault(Due due) {
        StringBuilder text = new StringBuilder(text(draw(5)));
        for (int i = draw(3); i > 0 && text.length() > 0; i--) {
            int at = draw(text.length());
            if (draw(3) == 0) {
                text.deleteCharAt(at);
            } else if (draw(2) == 0) {
                text.insert(at, SIGNS.charAt(draw(SIGNS.length())));
            } else {
                text.setCharAt(at, SIGNS.charAt(draw(SIGNS.length())));
            }
        }
        if (text.length() > 60) {
            text.setLength(60);
        }
        UpAllRound x = new UpAllRound();
        for (int i = 0; i < text.length(); i++) {
            x.feed(text.charAt(i), 1);
        }
        int use = draw(2);
        String s = text.toString();
        due.is("text of " + s, x.text(use), Model.isText(s, use) ? 1 : -10 - Model.fault(s, use));
    }
}
