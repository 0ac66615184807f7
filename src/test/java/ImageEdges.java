import java.util.Map;

/** Edges of images and of what is told: promises 35 to 40. */
final class ImageEdges {
    private static final int BEYOND = Edges.LOW - Edges.BEYOND;
    private static final int NONE = Edges.LOW - Edges.NONE;

    private final Edges e;

    ImageEdges(Edges e) {
        this.e = e;
    }

    void all() {
        image();
        waitsAndTape();
        restore();
        tell();
        check();
        count();
        told();
    }

    /** Changes each part of what an object holds. */
    private static void muddle(UpAllRound x) {
        x.become(0, 47);
        x.carry(0, 4);
        x.height(0, -77);
        x.loose(30);
        x.rise(2, -7);
        x.hide(5);
        x.untell(0);
        Make.text(x, 1, "999");
        Make.feed(x, "77777777");
        x.check();
        x.tell(123);
        x.climber(33, 3);
        x.voice(0, 0, 5);
        Make.sheet(x, 0, 16, 1, 1);
        x.sheet(2, 0, 0);
        x.body(30);
    }

    /** What an image keeps: neither sheets, nor the trace, nor what told() tells, nor how many images there were. */
    private static Map<String, Long> kept(UpAllRound x) {
        Map<String, Long> answers = Probe.of(x);
        answers.keySet().removeIf(call -> call.startsWith("told(") || call.startsWith("body(") || call.equals("count(7)")
            || call.contains("sheet") || call.equals("image()"));
        return answers;
    }

    private void image() {
        e.promise(35, "All (but SHEETS, THE TRACE, what told() tells, and how often this was done) is kept as an IMAGE");
        UpAllRound first = new UpAllRound();
        e.are("how often", first.image(), 1, first.image(), 2, first.restore(), 0, first.image(), 3, first.restore(), 0,
            first.image(), 4);
        UpAllRound x = Rich.full();
        x.image();
        muddle(x);
        x.restore();
        UpAllRound same = Rich.full();
        same.image();
        e.same("all that is kept", kept(x), kept(same));
        UpAllRound y = Rich.busy();
        y.image();
        muddle(y);
        int told = y.told(2);
        y.restore();
        e.are("sheets, trace and told() are as they are", y.told(2), told, y.count(7), 3, y.body(0), 50, y.rises(2), NONE,
            y.rises(0), 2, y.stepIs(1, 0), 1, y.stepIs(2, 0), 1, y.image(), 4);
        UpAllRound z = Make.with(0, 0);
        z.image();
        z.minutes(5);
        z.image();
        z.minutes(7);
        e.are("in place of one ahead", z.restore(), 5, z.climberIs(0, 2), 5);
        UpAllRound later = Make.with(0, 0);
        later.image();
        later.rise(3, 9);
        later.tell(7);
        Make.feed(later, "1");
        Make.text(later, 1, "4");
        e.are("what is done later is not in it", later.restore(), 0, later.stepIs(3, 0), 1, later.count(6), 0, later.count(5), 0,
            later.untell(0), 0, later.untell(1), 0);
    }

    /** What waits and what is on the tape, up to the last of each. */
    private void waitsAndTape() {
        e.promise(35, "All (but SHEETS, THE TRACE, what told() tells, and how often this was done) is kept as an IMAGE");
        UpAllRound waits = high(0, 9999, -9999, 5, 5, -1);
        int[] heights = {0, 9999, -9999, 5, 5, -1};
        for (int height : heights) {
            waits.tell(height);
        }
        waits.image();
        e.is("all six wait and are so", waits.check(), 0);
        for (int i = 0; i < 24; i++) {
            waits.tell(77);
        }
        e.are("again", waits.restore(), 0, waits.count(6), 6, waits.check(), 0, waits.tell(77), 1, waits.check(), 1,
            waits.restore(), 0,
            waits.check(), 0);
        UpAllRound tape = new UpAllRound();
        Make.feed(tape, "0+".repeat(29) + "37");
        e.are("sixty bytes", tape.image(), 1, Make.text(tape, 0, ""), 1, Make.feed(tape, "4".repeat(60)), 60, tape.restore(), 0,
            tape.count(5), 60, tape.untell(0), 0, tape.text(0), 1, tape.law(0, 0, 0, 0), 37);
        UpAllRound full = Rich.waiting(24);
        e.are("24 that wait", full.image(), 3, full.check(), 3, full.restore(), 9, full.count(6), 24, full.tell(0),
            Edges.LOW - Edges.FULL,
            full.check(), 3);
    }

    private void restore() {
        e.promise(36, "All is as the IMAGE has it, which stays: MINUTE.");
        UpAllRound x = Make.after(9999, Make.on(14, 0, 0));
        e.are("the last minute", x.image(), 1, x.restore(), 9999, x.restore(), 9999, x.minutes(1), Edges.LOW - Edges.STATE);
        UpAllRound y = Rich.busy();
        y.image();
        for (int i = 0; i < 3; i++) {
            muddle(y);
            e.are("time " + i, y.restore(), 9, y.count(0), 4, y.count(2), 9, y.count(6), 3, y.count(5), 3);
        }
        UpAllRound steps = new UpAllRound();
        steps.build(14);
        steps.rise(13, -9);
        steps.image();
        steps.build(4);
        steps.climber(0, 3);
        e.are("steps and no climbers", steps.restore(), 0, steps.count(1), 14, steps.stepIs(13, 0), -9, steps.count(0), 0,
            steps.build(4), 14);
        UpAllRound fewer = Make.on(4, 0, 3);
        fewer.image();
        fewer.restore();
        fewer.climber(20, 1);
        e.are("one more behind it", fewer.restore(), 0, fewer.count(0), 1, fewer.climber(0, 2), 1, fewer.climberIs(1, 0), 0,
            fewer.climberIs(1, 3), 0);
        e.promise(36, "NONE: there is none.");
        e.refuses(Edges.NONE, UpAllRound::new, "restore");
        e.refuses(Edges.NONE, () -> Make.with(0, 0, 69, 3), "restore");
        e.takes(7, Rich::bare, "restore");
    }

    private void tell() {
        e.promise(37, "One more number waits: how many.");
        UpAllRound x = new UpAllRound();
        int[] any = {0, Edges.MIN, Edges.MAX, Edges.LOW - 1, -1};
        for (int i = 0; i < 24; i++) {
            e.are("number " + i, x.tell(any[i % 5]), i + 1, x.count(6), i + 1);
        }
        e.promise(37, "FULL: 24 wait.");
        e.takes(24, () -> Rich.waiting(23), "tell", 5);
        for (int v : new int[] {0, 5, Edges.MIN, Edges.MAX}) {
            e.refuses(Edges.FULL, () -> Rich.waiting(24), "tell", v);
        }
        e.are("empty again behind check", x.tell(1), Edges.LOW - Edges.FULL, x.check(), 1, x.tell(1), 1);
    }

    private void check() {
        e.promise(38, "The numbers that wait (none do then) are HEIGHTS of CLIMBERS 0, 1, ..: 0; else 1 and the place (from 0)");
        UpAllRound empty = new UpAllRound();
        e.are("none wait", empty.check(), 0, empty.check(), 0, Make.with(0, 0).check(), 0);
        e.are("for which there is no climber", empty.tell(0), 1, empty.check(), 1, empty.count(6), 0, empty.check(), 0);
        int[] heights = {0, 9999, -9999, 5, 5, -1};
        for (int right = 0; right <= 6; right++) {
            UpAllRound x = high(heights);
            for (int i = 0; i < right; i++) {
                x.tell(heights[i]);
            }
            e.are("right " + right, x.check(), 0, x.count(6), 0, x.check(), 0);
            for (int i = 0; i < right; i++) {
                x.tell(heights[i]);
            }
            x.tell(right == 6 ? 0 : heights[right] + 1);
            x.tell(5);
            e.are("the first that isn't so behind " + right, x.check(), 1 + right, x.count(6), 0, x.check(), 0);
        }
        UpAllRound full = Rich.waiting(24);
        e.are("24 that wait", full.count(6), 24, full.check() > 0 ? 1 : 0, 1, full.count(6), 0);
        UpAllRound x = high(heights);
        for (int i = 0; i < 24; i++) {
            x.tell(i < 6 ? heights[i] : 0);
        }
        e.are("24, of which six are right", x.check(), 7, x.count(6), 0, x.climberIs(1, 3), 9999);
    }

    private static UpAllRound high(int... heights) {
        UpAllRound x = Make.with(0, 0, 0, 0, 0, 0, 0, 0, 0, 0, 0, 0);
        for (int i = 0; i < heights.length; i++) {
            x.height(i, heights[i]);
        }
        return x;
    }

    private void count() {
        e.promise(39, "0 CLIMBERS, 1 STEPS, 2 MINUTE, 3 the STEP that is NONE (-1: no one), 4 pairs of CLIMBERS AT one STEP");
        UpAllRound x = Make.on(14, 0, 5, 0, 5, 0, 5, 0, 5, 0, 5, 49, 5);
        x.seed(Edges.LOW - 1);
        e.are("least", x.count(2), 0, x.count(3), -1, x.count(5), 0, x.count(6), 0, x.count(7), 0);
        x.hide(13);
        Make.feed(x, "1".repeat(60));
        for (int i = 0; i < 24; i++) {
            x.tell(i);
        }
        x.voice(5, 2, 0);
        e.are("most", x.count(0), 6, x.count(1), 14, x.count(3), 13, x.count(4), 15, x.count(5), 60, x.count(6), 24,
            x.count(7), 6,
            x.count(8), Edges.LOW - 1, x.told(1), 0);
        e.is("the last minute", Make.after(9999, x).count(2), 9999);
        int[][] busy = {{0, 4}, {1, 6}, {2, 9}, {3, 3}, {5, 3}, {6, 3}, {7, 3}, {8, 99}};
        for (int[] row : busy) {
            e.asks(row[1], Rich::busy, "count", row[0]);
        }
        e.promise(39, "BEYOND.");
        e.range(Rich::busy, "count", 0, 0, 8, 0);
        e.range(UpAllRound::new, "count", 0, 0, 8, 0);
    }

    private void told() {
        e.promise(40, "How many acts have answered an ERROR LOW - k (k 1 .. 6); BEYOND: another k (counted, too).");
        e.range(Rich::busy, "told", 0, 1, 6, 0);
        e.range(UpAllRound::new, "told", 0, 1, 6, 0);
        UpAllRound x = new UpAllRound();
        e.are("counted, too", x.told(1), 0, x.told(0), BEYOND, x.told(1), 1, x.told(7), BEYOND, x.told(1), 2, x.told(1), 2,
            x.told(Edges.MIN), BEYOND, x.told(Edges.MAX), BEYOND, x.told(1), 4, x.told(2), 0, x.told(6), 0);
        UpAllRound many = new UpAllRound();
        for (int i = 0; i < 500; i++) {
            many.count(9);
        }
        e.is("five hundred", many.told(1), 500);
        e.asks(1, Rich::busy, "told", 1);
        e.asks(1, Rich::busy, "told", 5);
        UpAllRound each = Make.with(0, 0);
        each.restore();
        each.build(8);
        each.as(0, 6);
        each.voice(0, 3, 3);
        for (int i = 0; i < 25; i++) {
            each.tell(i);
        }
        e.are("each by itself", each.told(1), 0, each.told(2), 1, each.told(3), 1, each.told(4), 1, each.told(5), 1,
            each.told(6), 1);
    }
}
