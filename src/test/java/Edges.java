import java.io.IOException;
import java.lang.reflect.InvocationTargetException;
import java.lang.reflect.Method;
import java.util.Arrays;
import java.util.Map;
import java.util.TreeMap;
import java.util.function.Supplier;

/** Tests of the document's sentences: each test names its own, and asks what is taken, refused, left as it was. */
final class Edges {
    static final int BEYOND = 1;
    static final int NONE = 2;
    static final int STATE = 3;
    static final int FULL = 4;
    static final int KIND = 5;
    static final int PARTED = 6;
    static final int LOW = -1000000000;
    static final int MAX = Integer.MAX_VALUE;
    static final int MIN = Integer.MIN_VALUE;

    private static final Map<String, Method> FACE = new TreeMap<>();

    private final Due due = new Due();
    private final Document document;
    private String sentence = "";

    Edges() throws IOException {
        document = new Document();
        for (Method m : UpAllRound.class.getMethods()) {
            FACE.put(m.getName(), m);
        }
    }

    /** From here on it is this sentence of a promise (or one that has these words) that is tested. */
    void promise(int n, String words) {
        name("promise " + n, words);
    }

    void terms(int part, String words) {
        name("terms " + part, words);
    }

    private void name(String part, String words) {
        sentence = part + ", \"" + words + "\"";
        due.is(sentence + ": sentences that say so", document.name(part, words), 1);
    }

    void is(String what, long got, long want) {
        due.is(sentence + ": " + what, got, want);
    }

    /** Rows of answers and what is due: got, want, got, want, .. */
    void are(String what, long... rows) {
        due.are(sentence + ": " + what, rows);
    }

    /** The call answers this, and no ERROR is counted, whatever the answer looks like. */
    void takes(long want, Supplier<UpAllRound> made, String call, long... given) {
        UpAllRound x = made.get();
        int before = allTold(x);
        is(shown(call, given), ask(x, call, given), want);
        is(shown(call, given) + " is no ERROR", allTold(x), before);
    }

    /** The call answers LOW - k, which told(k) tells once more, and all else is as without it. */
    void refuses(int k, Supplier<UpAllRound> made, String call, long... given) {
        UpAllRound x = made.get();
        is(shown(call, given), ask(x, call, given), LOW - k);
        Map<String, Long> without = Probe.of(made.get());
        without.merge("told(" + k + ")", 1L, Long::sum);
        same("refused " + shown(call, given), Probe.of(x), without);
    }

    /** The call answers this and changes nothing at all. */
    void asks(long want, Supplier<UpAllRound> made, String call, long... given) {
        UpAllRound x = made.get();
        is(shown(call, given), ask(x, call, given), want);
        same("behind " + shown(call, given), Probe.of(x), Probe.of(made.get()));
    }

    /** What is given at a place may be least .. most: these are not BEYOND, and what lies outside them is. */
    void range(Supplier<UpAllRound> made, String call, int place, long least, long most, long... given) {
        for (long v : new long[] {least, most}) {
            long[] right = at(given, place, v);
            is(shown(call, right) + " is not BEYOND", ask(made.get(), call, right) == LOW - BEYOND ? 1 : 0, 0);
        }
        for (long v : new long[] {least - 1, most + 1, MIN, MAX}) {
            refuses(BEYOND, made, call, at(given, place, v));
        }
    }

    void same(String what, Map<String, Long> got, Map<String, Long> want) {
        is(what + ": how much there is to ask", got.size(), want.size());
        for (Map.Entry<String, Long> row : want.entrySet()) {
            is(what + ": " + row.getKey(), got.getOrDefault(row.getKey(), Long.MIN_VALUE), row.getValue());
        }
    }

    static int ask(UpAllRound x, String call, long... given) {
        Method m = FACE.get(call);
        Object[] as = new Object[given.length];
        for (int i = 0; i < given.length; i++) {
            if (m.getParameterTypes()[i] == long.class) {
                as[i] = given[i];
            } else {
                as[i] = Math.toIntExact(given[i]);
            }
        }
        try {
            return (int) m.invoke(x, as);
        } catch (InvocationTargetException e) {
            throw new AssertionError(shown(call, given) + " threw " + e.getCause());
        } catch (IllegalAccessException e) {
            throw new AssertionError(e);
        }
    }

    void end() {
        due.is("parts of the document", document.parts(), 45);
        for (String left : document.notNamed()) {
            due.is("no test names " + left, 1, 0);
        }
        due.end();
    }

    private static long[] at(long[] given, int place, long v) {
        long[] changed = given.clone();
        changed[place] = v;
        return changed;
    }

    private static int allTold(UpAllRound x) {
        int all = 0;
        for (int k = 1; k <= 6; k++) {
            all += x.told(k);
        }
        return all;
    }

    private static String shown(String call, long[] given) {
        return call + Arrays.toString(given);
    }
}
