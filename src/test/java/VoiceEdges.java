import java.util.Map;

/** Edges of voices: the first part of terms 4, promises 28 and 29. */
final class VoiceEdges {
    private static final int PARTED = Edges.LOW - Edges.PARTED;
    private static final int HALF = 1 << 30;

    private final Edges e;

    VoiceEdges(Edges e) {
        this.e = e;
    }

    void all() {
        names();
        porter();
        parts();
        runner();
        descender();
        drunk();
        skipper();
        ball();
        lift();
        bodiesOfKinds();
        traceTerms();
        voice();
        voiceBeyond();
        parted();
        body();
    }

    /** One climber, number 0, and what it answers. */
    private static int said(int km, int voice, int x) {
        return Make.with(km, 0).voice(0, voice, x);
    }

    /** What the second climber, number 1, answers. */
    private static int saidBy1(int km, int voice, int x) {
        return Make.with(0, 0, km, 0).voice(1, voice, x);
    }

    /** The trace behind a voice of the second climber. */
    private void traces(int km, int voice, int... bodies) {
        UpAllRound x = Make.with(0, 0, km, 0);
        x.voice(1, voice, 7);
        traceIs("trace of " + km + ", voice " + voice, x, bodies);
    }

    private void traceIs(String what, UpAllRound x, int... bodies) {
        e.is(what + ", how many", x.count(7), bodies.length);
        for (int i = 0; i < bodies.length; i++) {
            e.is(what + ", body " + i, x.body(i), bodies[i]);
        }
    }

    // ---- terms 4

    private void names() {
        e.terms(4, "VOICES of a Porter, with a number x (ints that wrap); k is the number, m as told");
        UpAllRound x = Make.with(9, 0, 9, 0, 9, 0, 9, 0, 9, 0, 9, 0);
        for (int k = 0; k < 6; k++) {
            e.are("number " + k, x.voice(k, 0, 10), 10 + k, x.voice(k, 1, 10), 20 + 2 * k, x.voice(k, 2, 10), 11 + 2 * k,
                x.voice(k, 3, 100), 100 / (9 - k));
        }
        x.become(5, 4);
        e.is("m as told", x.voice(5, 3, 100), -100);
    }

    private void porter() {
        e.terms(4, "BODIES: Porter: 10 pants: x + k.");
        e.are("wraps", saidBy1(0, 0, Edges.MAX), Edges.MIN, saidBy1(0, 0, Edges.MIN), Edges.MIN + 1,
            saidBy1(0, 0, Edges.MAX - 1), Edges.MAX,
            saidBy1(0, 0, -1), 0);
        traces(0, 0, 10);
        e.terms(4, "11 counts: pants(x) * 2.");
        e.are("wraps", said(0, 1, HALF), Edges.MIN, said(0, 1, HALF - 1), Edges.MAX - 1, said(0, 1, -HALF), Edges.MIN,
            said(0, 1, -HALF - 1), Edges.MAX - 1, said(0, 1, Edges.MAX), -2, said(0, 1, Edges.MIN), 0);
        traces(0, 1, 11, 10);
        e.terms(4, "12 swears: counts(x) - m.");
        e.are("wraps", said(9, 2, HALF), Edges.MAX - 8, said(2, 2, -HALF), Edges.MAX - 1, said(0, 2, HALF), Edges.MIN,
            said(9, 2, 0), -9);
        traces(0, 2, 12, 11, 10);
    }

    private void parts() {
        e.terms(4, "13 parts: x by (m - k), cut (PARTED if that is 0; that is all that voice() answers then).");
        e.are("by 1 and -1", said(1, 3, 7), 7, saidBy1(0, 3, 7), -7, saidBy1(2, 3, 7), 7, saidBy1(0, 3, Edges.MIN), Edges.MIN,
            saidBy1(0, 3, Edges.MAX), -Edges.MAX, said(1, 3, Edges.MIN), Edges.MIN);
        e.are("by 0", said(0, 3, 7), PARTED, saidBy1(1, 3, 7), PARTED, said(0, 3, 0), PARTED, saidBy1(1, 3, Edges.MIN), PARTED);
        e.are("a quotient of 0 is none", said(9, 3, 8), 0, said(9, 3, 0), 0, said(9, 3, -8), 0, said(9, 3, 9), 1,
            said(9, 3, -9), -1,
            said(9, 3, -10), -1);
        traces(0, 3, 13);
    }

    private void runner() {
        e.terms(4, "Runner: 20 pants: super.pants(x) - 4.");
        e.are("wraps", said(10, 0, Edges.MIN), Edges.MAX - 3, said(10, 0, Edges.MIN + 3), Edges.MAX,
            said(10, 0, Edges.MIN + 4), Edges.MIN,
            saidBy1(10, 0, Edges.MAX), Edges.MAX - 3);
        traces(10, 0, 20, 10);
        e.terms(4, "21 parts: super.parts(x) + counts(1).");
        e.are("parts", said(11, 3, 7), 7 + (1 - 4) * 2, saidBy1(13, 3, 7), 3 + (1 + 1 - 4) * 2, said(11, 3, Edges.MIN),
            Edges.MAX - 5,
            said(10, 3, 7), PARTED, saidBy1(11, 3, 7), PARTED);
        traces(10, 3, 21, 13, 11, 20, 10);
    }

    private void descender() {
        e.terms(4, "Descender: 30 counts: 0 - super.counts(x).");
        e.are("wraps", said(20, 1, HALF), Edges.MIN, said(20, 1, -HALF), Edges.MIN, said(20, 1, HALF - 1), -(Edges.MAX - 1),
            said(20, 1, 0), 0, said(20, 1, 7), -14, said(25, 2, 7), -19);
        traces(20, 1, 30, 11, 10);
        traces(20, 2, 12, 30, 11, 10);
    }

    private void drunk() {
        e.terms(4, "Drunk: 40 swears: super.swears(x / 2).");
        e.are("cut", said(33, 2, 7), 6 - 3, said(33, 2, -7), -6 - 3, said(33, 2, 1), -3, said(33, 2, -1), -3,
            said(30, 2, Edges.MIN), Edges.MIN,
            said(30, 2, Edges.MAX), Edges.MAX - 1);
        traces(30, 2, 40, 12, 11, 10);
    }

    private void skipper() {
        e.terms(4, "Skipper: 50 pants: super.pants(x) * 3.");
        e.are("wraps", said(40, 0, 7), 9, said(40, 0, HALF + 4), 3 * HALF, said(40, 0, Edges.MIN + 4), Edges.MIN,
            said(40, 0, 4), 0);
        traces(40, 0, 50, 20, 10);
        e.terms(4, "51 swears: super.swears(x) ^ k.");
        UpAllRound x = Make.with(0, 0, 0, 0, 0, 0, 0, 0, 0, 0, 42, 0);
        e.are("swears", x.voice(5, 2, 7), (8 * 3 * 2 - 2) ^ 5, said(40, 2, 7), 18, saidBy1(49, 2, 0), (-3 * 3 * 2 - 9) ^ 1,
            x.voice(5, 2, -1), -2 ^ 5);
        traces(40, 2, 51, 12, 11, 50, 20, 10);
    }

    private void ball() {
        e.terms(4, "Ball: 60 counts: super.counts(x + 1).");
        e.are("wraps", said(50, 1, Edges.MAX), 0, said(50, 1, 7), -16, said(50, 1, -1), 0, said(50, 1, HALF - 1), Edges.MIN,
            saidBy1(50, 1, 7), -18, said(53, 2, 7), -19);
        traces(50, 1, 60, 30, 11, 10);
        traces(50, 2, 12, 60, 30, 11, 10);
    }

    private void lift() {
        e.terms(4, "Lift: 70 pants: 9.");
        e.are("whatever x is", said(65, 0, Edges.MIN), 9, said(65, 0, Edges.MAX), 9, saidBy1(60, 0, 0), 9);
        traces(60, 0, 70);
        e.terms(4, "71 counts: super.counts(x) + m.");
        e.are("counts", said(60, 1, Edges.MAX), 18, said(69, 1, 0), 27, said(69, 2, 0), 18, said(69, 3, -9), -1);
        traces(60, 1, 71, 11, 70);
        traces(60, 2, 12, 71, 11, 70);
    }

    private void bodiesOfKinds() {
        e.terms(4, "pants(..) is the BODY of its KIND, or of the next KIND above that has one; super.pants(..)");
        traces(40, 1, 11, 50, 20, 10);
        traces(40, 3, 21, 13, 11, 50, 20, 10);
        traces(50, 0, 10);
        traces(50, 3, 13);
        traces(20, 0, 10);
        traces(20, 3, 13);
        traces(30, 0, 10);
        traces(30, 1, 11, 10);
        traces(30, 3, 13);
        traces(10, 1, 11, 20, 10);
        traces(10, 2, 12, 11, 20, 10);
        traces(60, 3, 13);
    }

    private void traceTerms() {
        e.terms(4, "THE TRACE: the numbers of BODIES of the latest voice(), as they began");
        UpAllRound x = Make.with(9, 0, 49, 0, 0, 0);
        e.is("none yet", x.count(7), 0);
        x.voice(1, 3, 5);
        traceIs("the longest one that there is", x, 21, 13, 11, 50, 20, 10);
        x.voice(0, 0, 5);
        traceIs("a shorter one in its place", x, 10);
        e.is("nothing of the one ahead", x.body(1), Edges.LOW - Edges.NONE);
        x.voice(1, 2, 5);
        x.restore();
        x.image();
        x.build(4);
        x.become(1, 0);
        traceIs("what else is asked leaves it", x, 51, 12, 11, 50, 20, 10);
    }

    // ---- promises

    private void voice() {
        e.promise(28, "A VOICE of a CLIMBER: any number.");
        e.takes(Edges.LOW - Edges.BEYOND, () -> Make.with(9, 0), "voice", 0, 0, Edges.LOW - Edges.BEYOND);
        e.takes(PARTED, () -> Make.with(9, 0), "voice", 0, 0, PARTED);
        e.takes(PARTED, () -> Make.with(1, 0), "voice", 0, 3, PARTED);
        e.takes(Edges.MIN, () -> Make.with(9, 0), "voice", 0, 0, Edges.MIN);
        Map<String, Long> behind = behind(20, 1);
        e.same("all but the trace stays", behind, behind(0, 0));
    }

    /** What there is to ask, but for the trace, behind a voice of the first climber. */
    private static Map<String, Long> behind(int x, int voice) {
        UpAllRound busy = Rich.busy();
        busy.become(0, 9);
        busy.voice(0, voice, x);
        return withoutTrace(busy);
    }

    private static Map<String, Long> withoutTrace(UpAllRound x) {
        Map<String, Long> answers = Probe.of(x);
        answers.keySet().removeIf(call -> call.equals("count(7)") || call.startsWith("body("));
        return answers;
    }

    private void voiceBeyond() {
        e.promise(28, "BEYOND.");
        e.range(Rich::busy, "voice", 0, 0, 3, 0, 0, 7);
        e.range(Rich::full, "voice", 0, 0, 5, 0, 2, 7);
        e.range(Rich::busy, "voice", 1, 0, 3, 3, 0, 7);
        e.refuses(Edges.BEYOND, Rich::bare, "voice", 0, 0, 0);
        e.refuses(Edges.BEYOND, () -> Make.with(0, 0), "voice", 1, 3, 0);
        e.refuses(Edges.BEYOND, () -> Make.with(0, 0), "voice", 0, 4, 0);
    }

    private void parted() {
        e.promise(28, "PARTED.");
        for (int kind = 0; kind <= 6; kind++) {
            for (int number = 0; number < 6; number++) {
                UpAllRound x = Rich.full();
                x.become(number, 10 * kind + number);
                e.are("kind " + kind + ", number " + number, x.told(6), 0, x.voice(number, 3, 7), PARTED, x.told(6), 1);
                int body = kind == 1 || kind == 4 ? 21 : 13;
                e.are("as they began", x.count(7), body == 21 ? 2 : 1, x.body(0), body, x.body(x.count(7) - 1), 13);
                x.become(number, 10 * kind + number + 1);
                e.are("m one more: it is not", x.voice(number, 3, 7) == PARTED ? 1 : 0, 0, x.told(6), 1);
            }
        }
        UpAllRound x = Make.with(0, 0);
        e.are("other voices never are", x.voice(0, 0, 7), 7, x.voice(0, 1, 7), 14, x.voice(0, 2, 7), 14, x.told(6), 0);
        UpAllRound gone = Rich.busy();
        e.is("a porter whose m is its number", gone.voice(0, 3, 7), PARTED);
        Map<String, Long> without = withoutTrace(Rich.busy());
        without.merge("told(6)", 1L, Long::sum);
        e.same("all but the trace stays", withoutTrace(gone), without);
    }

    private void body() {
        e.promise(29, "THE TRACE's i-th.");
        UpAllRound x = Make.with(49, 0);
        x.voice(0, 2, 5);
        e.are("first and last", x.body(0), 51, x.body(5), 10, x.body(2), 11);
        e.asks(12, Rich::busy, "body", 0);
        e.asks(10, Rich::busy, "body", 2);
        e.promise(29, "NONE: there is none such.");
        for (int i : new int[] {-1, 3, 29, 30, Edges.MIN, Edges.MAX}) {
            e.refuses(Edges.NONE, Rich::busy, "body", i);
        }
        e.refuses(Edges.NONE, Rich::bare, "body", 0);
        e.refuses(Edges.NONE, UpAllRound::new, "body", 0);
        e.refuses(Edges.NONE, UpAllRound::new, "body", -1);
    }
}
