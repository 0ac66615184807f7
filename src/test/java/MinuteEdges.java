/** Edges of minutes: terms 1 from MINUTE on, promises 16 to 18. */
final class MinuteEdges {
    private final Edges e;

    MinuteEdges(Edges e) {
        this.e = e;
    }

    void all() {
        minute();
        steadyKinds();
        drunk();
        lift();
        tallies();
        tallyOfNone();
        upAndDown();
        held();
        oneMore();
        byDraws();
        draws();
        minutes();
        loose();
        seed();
    }

    private void minute() {
        e.terms(1, "MINUTE (0 .. 9999; 0 at first).");
        UpAllRound x = new UpAllRound();
        e.is("at first", x.count(2), 0);
        Make.after(9999, x);
        e.are("at last", x.count(2), 9999, x.minutes(1), Edges.LOW - Edges.STATE, x.loose(1), Edges.LOW - Edges.STATE,
            x.count(2), 9999);
    }

    /** What a climber tells of its steps in a minute, and where it is behind it, on a stair of 14. */
    private void goes(int km, int minute, int goes) {
        UpAllRound x = Make.after(minute, Make.on(14, km, 0));
        int from = x.climberIs(0, 2);
        e.is("goes of " + km + " in minute " + minute, x.climberIs(0, 4), goes);
        x.minutes(1);
        e.is("where " + km + " is behind minute " + minute, x.climberIs(0, 2), (from + goes + 14) % 14);
    }

    private void steadyKinds() {
        int[] restBy3 = {0, 1, 2, 0, 1, 2, 0, 1, 2, 0};
        for (int m = 0; m <= 9; m++) {
            e.terms(1, "GOES (so many STEPS in a MINUTE; below 0 down): PORTER: 1.");
            goes(m, m, 1);
            e.terms(1, "RUNNER: 1 and the rest of m by 3.");
            goes(10 + m, m, 1 + restBy3[m]);
            e.terms(1, "DESCENDER: 1 down.");
            goes(20 + m, m, -1);
            e.terms(1, "SKIPPER: as RUNNER.");
            goes(40 + m, m, 1 + restBy3[m]);
            e.terms(1, "BALL: down 2 and the rest of m by 3.");
            goes(50 + m, m, -2 - restBy3[m]);
        }
    }

    private void drunk() {
        e.terms(1, "DRUNK: 1 down, if MINUTE is a multiple of m and 1, else 1 up.");
        for (int m = 0; m <= 9; m++) {
            goes(30 + m, 0, -1);
            goes(30 + m, 1, m == 0 ? -1 : 1);
            goes(30 + m, m, m == 0 ? -1 : 1);
            goes(30 + m, m + 1, -1);
            goes(30 + m, m + 2, m == 0 ? -1 : 1);
            goes(30 + m, 2 * m + 1, m == 0 ? -1 : 1);
            goes(30 + m, 2 * m + 2, -1);
        }
        goes(38, 9998, 1);
        goes(38, 9990, -1);
    }

    private void lift() {
        e.terms(1, "LIFT: m and 1, if MINUTE is a multiple of 4, else 0.");
        for (int m = 0; m <= 9; m++) {
            int[] goes = {m + 1, 0, 0, 0, m + 1, 0, 0, 0, m + 1};
            for (int minute = 0; minute < goes.length; minute++) {
                goes(60 + m, minute, goes[minute]);
            }
        }
        goes(69, 9996, 10);
        goes(69, 9998, 0);
    }

    /** How much more the height of a climber is behind its first minute, where each step counts by a text. */
    private static int tally(int km, String text) {
        UpAllRound x = Make.on(14, km, 5);
        Make.text(x, 0, text);
        x.minutes(1);
        return x.climberIs(0, 3);
    }

    private void tallies() {
        e.terms(1, "PORTER, RUNNER, DESCENDER, DRUNK: v.");
        e.are("most", tally(0, "100"), 99, tally(11, "99"), 198, tally(20, "99"), -99, tally(31, "9999"), -99);
        e.are("least", tally(0, "0-100"), -99, tally(11, "0-99"), -198, tally(20, "0-99"), 99, tally(31, "0-9999"), 99);
        e.are("naught", tally(0, "0"), 0, tally(12, "0"), 0, tally(20, "0"), 0, tally(30, "0"), 0);
        e.terms(1, "SKIPPER: 1, if v is above 0, -1, if it is below, else 0.");
        e.are("skipper", tally(40, "1"), 1, tally(40, "99"), 1, tally(40, "0"), 0, tally(40, "0-1"), -1, tally(40, "0-99"), -1,
            tally(42, "2"), 3, tally(42, "0-2"), -3);
        e.terms(1, "BALL: twice v.");
        e.are("ball", tally(50, "1"), -4, tally(50, "99"), -396, tally(50, "0-99"), 396, tally(52, "100"), -4 * 198,
            tally(50, "0"), 0);
        e.terms(1, "LIFT: 0.");
        e.are("lift", tally(60, "99"), 0, tally(69, "0-99"), 0);
    }

    private void tallyOfNone() {
        e.terms(1, "Of the STEP that is NONE each counts 0.");
        for (int km : new int[] {0, 20, 30, 40, 50, 60, 10}) {
            int goes = Make.on(14, km, 5).climberIs(0, 4);
            int at = goes > 0 ? 5 : 4;
            e.is("that one alone, by " + km, hiddenBy(km, at), hiddenBy(km, -1) - share(km, goes));
            e.is("another, by " + km, hiddenBy(km, 9), hiddenBy(km, -1));
        }
        UpAllRound x = Make.with(0, 7, 20, 0);
        Make.text(x, 0, "7");
        x.hide(7);
        x.minutes(1);
        e.are("also where a text counts it, at the ring's end", x.climberIs(0, 3), 0, x.climberIs(1, 3), 0);
    }

    private static int hiddenBy(int km, int step) {
        UpAllRound x = Make.on(14, km, 5);
        for (int i = 0; i < 14; i++) {
            x.rise(i, 3);
        }
        x.hide(step);
        x.minutes(1);
        return x.climberIs(0, 3);
    }

    /** What one step of a rise of 3 is worth to it. */
    private static int share(int km, int goes) {
        int v = km / 10 == 4 ? 1 : km / 10 == 5 ? 6 : km / 10 == 6 ? 0 : 3;
        return goes > 0 ? v : -v;
    }

    private void upAndDown() {
        e.terms(1, "up from a STEP HEIGHT is more by what it TALLIES of that STEP; down to a STEP it is less");
        UpAllRound x = Make.with(12, 6, 52, 2, 0, 7, 20, 0);
        int[] rises = {1, 2, 3, -4, 5, -6, 7, 9};
        for (int i = 0; i < 8; i++) {
            x.rise(i, rises[i]);
        }
        x.minutes(1);
        e.are("where", x.climberIs(0, 2), 1, x.climberIs(1, 2), 6, x.climberIs(2, 2), 0, x.climberIs(3, 2), 7);
        e.are("heights", x.climberIs(0, 3), 7 + 9 + 1, x.climberIs(1, 3), -2 * (2 + 1 + 9 + 7), x.climberIs(2, 3), 9,
            x.climberIs(3, 3), -9);
    }

    private void held() {
        e.terms(1, "(HEIGHT held within -9999 .. 9999)");
        e.are("up", heldFrom(0, 9998, 1), 9999, heldFrom(0, 9998, 2), 9999, heldFrom(0, 9999, 9), 9999,
            heldFrom(0, 9999, -9), 9990, heldFrom(0, -9998, -1), -9999, heldFrom(0, -9998, -2), -9999,
            heldFrom(0, -9999, -9), -9999, heldFrom(0, -9999, 9), -9990);
        e.are("down", heldFrom(20, -9998, 1), -9999, heldFrom(20, -9998, 2), -9999, heldFrom(20, -9999, 9), -9999,
            heldFrom(20, -9999, -9), -9990, heldFrom(20, 9998, -1), 9999, heldFrom(20, 9998, -2), 9999,
            heldFrom(20, 9999, 9), 9990);
        UpAllRound x = Make.with(12, 0, 50, 2);
        x.rise(0, 9);
        x.rise(1, -9);
        x.rise(2, 1);
        x.height(0, 9998);
        x.height(1, 9997);
        x.minutes(1);
        e.are("behind each step", x.climberIs(0, 3), 9999 - 9 + 1, x.climberIs(1, 3), 9999 - 18);
        UpAllRound y = Make.with(12, 0, 50, 2);
        y.rise(0, -9);
        y.rise(1, 9);
        y.rise(2, -1);
        y.height(0, -9998);
        y.height(1, -9997);
        y.minutes(1);
        e.are("behind each step below", y.climberIs(0, 3), -9999 + 9 - 1, y.climberIs(1, 3), -9999 + 18);
    }

    private static int heldFrom(int km, int height, int rise) {
        UpAllRound x = Make.with(km, 4);
        x.rise(4, rise);
        x.rise(3, rise);
        x.height(0, height);
        x.minutes(1);
        return x.climberIs(0, 3);
    }

    private void oneMore() {
        e.terms(1, "Then MINUTE is 1 more.");
        UpAllRound x = Make.with(2, 0, 12, 0);
        Make.text(x, 0, "t*10");
        x.minutes(1);
        e.are("all of the first go in minute 0", x.climberIs(0, 3), 0, x.climberIs(1, 3), 0, x.count(2), 1);
        x.minutes(1);
        e.are("all of the second go in minute 1", x.climberIs(0, 3), 10, x.climberIs(1, 3), 30, x.count(2), 2);
    }

    private void byDraws() {
        e.terms(1, "BY DRAWS a MINUTE: if there are CLIMBERS, two draws");
        UpAllRound nobody = Make.on(4);
        e.are("nobody", nobody.loose(40), 0, nobody.count(8), 1, nobody.count(2), 40);
        for (int climbers = 1; climbers <= 6; climbers++) {
            for (int n : new int[] {4, 8, 14}) {
                byDraws(climbers, n, 99 + climbers);
                byDraws(climbers, n, Edges.MIN + climbers);
            }
        }
    }

    /** The way in longs, where nothing wraps by itself. */
    private void byDraws(int climbers, int n, int seed) {
        UpAllRound x = Make.on(n);
        int[] at = new int[climbers];
        for (int i = 0; i < climbers; i++) {
            x.climber(0, i % n);
            x.height(i, 100 * i);
            at[i] = i % n;
        }
        x.seed(seed);
        long z = seed & 0xFFFFFFFFL;
        for (int minute = 0; minute < 8; minute++) {
            z = next(z);
            int who = (int) (z / 256 % climbers);
            z = next(z);
            at[who] = (int) (z / 256 % n);
            for (int i = 0; i < climbers; i++) {
                at[i] = (at[i] + 1) % n;
            }
            x.loose(1);
            e.is("z in minute " + minute, x.count(8), (int) z);
            for (int i = 0; i < climbers; i++) {
                e.are("climber " + i + " of " + climbers + " on " + n, x.climberIs(i, 2), at[i],
                    x.climberIs(i, 3), 100 * i + minute + 1);
            }
        }
    }

    private static long next(long z) {
        return (z * 1103515245L + 12345L) & 0xFFFFFFFFL;
    }

    private void draws() {
        e.terms(1, "DRAWS: z is told (1 at first); each makes it z * 1103515245 + 12345 (an int), and gives z >>> 8.");
        e.is("at first", new UpAllRound().count(8), 1);
        for (int seed : new int[] {0, 1, -1, Edges.MAX, Edges.MIN, 77}) {
            UpAllRound x = Make.with(0, 0);
            x.seed(seed);
            x.loose(1);
            long z = next(next(seed & 0xFFFFFFFFL));
            e.are("from " + seed, x.count(8), (int) z, x.climberIs(0, 2), (z / 256 + 1) % 8);
        }
    }

    // ---- promises

    private void minutes() {
        e.promise(16, "n (1 .. 200) MINUTES: how many pairs of CLIMBERS are AT one STEP then.");
        UpAllRound all = Make.on(4, 0, 1, 1, 1, 2, 1, 3, 1, 4, 1, 5, 1);
        e.are("all six", all.minutes(200), 15, all.count(2), 200, all.minutes(1), 15);
        UpAllRound none = Make.on(6, 0, 0, 0, 1, 0, 2, 0, 3, 0, 4, 0, 5);
        e.is("all apart", none.minutes(1), 0);
        UpAllRound x = Make.on(6, 0, 0, 0, 0, 0, 0, 20, 1, 20, 1, 20, 2);
        e.are("three and two, then four", x.count(4), 3 + 1, x.minutes(1), 3 + 1 + 3, x.minutes(1), 3 + 1);
        e.takes(0, UpAllRound::new, "minutes", 200);
        e.promise(16, "BEYOND.");
        e.range(Rich::busy, "minutes", 0, 1, 200, 0);
        e.range(Rich::bare, "minutes", 0, 1, 200, 0);
        e.promise(16, "STATE: MINUTE would be above 9999.");
        for (int left : new int[] {1, 2, 199}) {
            UpAllRound y = Rich.late(left);
            e.are("left " + left, y.count(2), 9999 - left, y.told(3), 0);
            y.minutes(left);
            e.are("the last " + left, y.count(2), 9999, y.told(3), 0, y.minutes(1), Edges.LOW - Edges.STATE, y.count(2), 9999);
            e.refuses(Edges.STATE, () -> Rich.late(left), "minutes", left + 1);
            e.refuses(Edges.STATE, () -> Rich.late(left), "minutes", 200);
        }
        UpAllRound z = Rich.late(200);
        z.minutes(200);
        e.are("all 200 that are left", z.count(2), 9999, z.told(3), 0);
        e.refuses(Edges.STATE, () -> Rich.late(0), "minutes", 1);
        e.refuses(Edges.BEYOND, () -> Rich.late(0), "minutes", 0);
        e.refuses(Edges.BEYOND, () -> Rich.late(0), "minutes", 201);
        e.refuses(Edges.BEYOND, () -> Rich.late(0), "minutes", Edges.MAX);
    }

    private void loose() {
        e.promise(17, "n (1 .. 40) MINUTES BY DRAWS: likewise.");
        UpAllRound x = Make.on(4, 0, 0, 0, 0, 20, 1);
        UpAllRound y = Make.on(4, 0, 0, 0, 0, 20, 1);
        int pairs = x.loose(40);
        for (int i = 0; i < 39; i++) {
            y.loose(1);
        }
        e.are("forty at once", y.loose(1), pairs, x.count(4), pairs, x.count(2), 40, y.count(8), x.count(8));
        for (int i = 0; i < 3; i++) {
            e.are("climber " + i, x.climberIs(i, 2), y.climberIs(i, 2), x.climberIs(i, 3), y.climberIs(i, 3));
        }
        e.promise(17, "BEYOND.");
        e.range(Rich::busy, "loose", 0, 1, 40, 0);
        e.range(Rich::bare, "loose", 0, 1, 40, 0);
        e.promise(17, "STATE: MINUTE would be above 9999.");
        for (int left : new int[] {1, 2, 39}) {
            UpAllRound late = Rich.late(left);
            late.loose(left);
            e.are("the last " + left, late.count(2), 9999, late.told(3), 0, late.loose(1), Edges.LOW - Edges.STATE);
            e.refuses(Edges.STATE, () -> Rich.late(left), "loose", left + 1);
            e.refuses(Edges.STATE, () -> Rich.late(left), "loose", 40);
        }
        UpAllRound z = Rich.late(40);
        z.loose(40);
        e.are("all 40 that are left", z.count(2), 9999, z.told(3), 0);
        e.refuses(Edges.STATE, () -> Rich.late(0), "loose", 1);
        e.refuses(Edges.BEYOND, () -> Rich.late(0), "loose", 0);
        e.refuses(Edges.BEYOND, () -> Rich.late(0), "loose", 41);
    }

    private void seed() {
        e.promise(18, "z becomes v: what it was (any number).");
        UpAllRound x = new UpAllRound();
        int was = 1;
        for (int v : new int[] {0, -1, Edges.MAX, Edges.MIN, Edges.LOW - 1, Edges.LOW - 6, Edges.LOW, 1}) {
            e.are("seed " + v, x.seed(v), was, x.count(8), v);
            was = v;
        }
        e.are("no ERROR is told", x.told(1), 0, x.told(6), 0);
        UpAllRound y = Make.with(0, 0);
        y.seed(77);
        y.minutes(200);
        y.then(200, 0, 0);
        e.is("minutes without draws leave it", y.count(8), 77);
    }
}
