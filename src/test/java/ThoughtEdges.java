/** Edges of what would be: terms 3, promises 19 to 27. */
final class ThoughtEdges {
    private static final int NONE = Edges.LOW - Edges.NONE;
    private static final int MISSING = 3;

    private final Edges e;

    ThoughtEdges(Edges e) {
        this.e = e;
    }

    void all() {
        onlyThought();
        beyondTheLastMinute();
        meetTerms();
        lapTerms();
        togetherTerms();
        disputeTerms();
        levelsTerms();
        suspectsTerms();
        bestTerms();
        oddsTerms();
        then();
        meet();
        lap();
        together();
        dispute();
        levels();
        suspects();
        best();
        odds();
    }

    // ---- terms 3

    private void onlyThought() {
        e.terms(3, "(All this is only thought; MINUTE beyond 9999, too.)");
        UpAllRound x = Rich.full();
        e.asks(x.then(200, 2, 1), Rich::full, "then", 200, 2, 1);
        e.asks(x.meet(0, 3), Rich::full, "meet", 0, 3);
        e.asks(x.lap(3, 1), Rich::full, "lap", 3, 1);
        e.asks(x.dispute(), Rich::full, "dispute");
        e.asks(x.levels(3, 1), Rich::full, "levels", 3, 1);
        e.asks(x.suspects(1, 0), Rich::full, "suspects", 1, 0);
        e.asks(x.suspects(5, 2), Rich::full, "suspects", 5, 2);
        e.asks(x.best(1, 100, 2), Rich::full, "best", 1, 100, 2);
        e.asks(x.odds(5, 4, 100, 1), Rich::full, "odds", 5, 4, 100, 1);
        e.asks(2, () -> Make.with(0, 0, 20, 4), "together");
        for (int climber = 0; climber < 6; climber++) {
            UpAllRound y = Rich.full();
            int at = y.then(200, climber, 0);
            int height = y.then(200, climber, 1);
            y.minutes(200);
            e.are("as it comes to climber " + climber, y.climberIs(climber, 2), at, y.climberIs(climber, 3), height);
        }
    }

    /** A drunk of 4 goes down in minute 10000, and would not in 9999 over and over. */
    private static UpAllRound atTheLast(int text) {
        UpAllRound x = Make.after(9999, Make.on(4, 0, 0, 34, 0, 40, 0));
        x.carry(0, 0);
        x.carry(1, 2);
        x.carry(2, 0);
        for (int climber = 0; climber < 3; climber++) {
            x.height(climber, 0);
        }
        Make.text(x, 0, text == 0 ? "0" : "(t>9999)*7");
        return x;
    }

    private void beyondTheLastMinute() {
        e.terms(3, "MINUTE beyond 9999, too");
        UpAllRound x = atTheLast(1);
        e.are("then", x.then(1, 0, 1), 0, x.then(2, 0, 1), 7, x.then(200, 0, 1), 199 * 7, x.then(2, 1, 0), 2, x.then(3, 1, 0), 3);
        e.are("lap", x.lap(0, 1), 3 * 7, x.lap(2, 1), 3);
        e.are("meet, together, dispute", x.meet(0, 1), 2, x.meet(1, 0), 2, x.together(), 2, x.dispute(), 2);
        e.are("best", x.best(0, 3, 0), 14, x.best(0, 1, 0), 0, x.best(2, 100, 0), 99, x.best(2, 100, 1), 100);
        e.are("odds", x.odds(0, 1, 1, 0), 1, x.odds(0, 1, 1, 1), 4, x.odds(0, 1, 2, 0), 1, x.odds(0, 1, 2, 1), 2);
        Make.sheet(x, 0, 8, 0, 7, 14, 21);
        Make.sheet(x, 1, 8, 0, 7, 14, 14);
        e.are("suspects", x.suspects(0, 0), 16 | 1, x.suspects(0, 1), 8, x.count(2), 9999);
        e.asks(2, () -> atTheLast(0), "together");
        e.asks(2, () -> atTheLast(1), "dispute");
    }

    private void meetTerms() {
        e.terms(3, "MEET: behind how many MINUTES (0 .. 200) two are AT one STEP first.");
        UpAllRound x = Make.with(0, 0, 20, 0, 0, 1, 20, 1);
        e.are("first", x.meet(0, 1), 0, x.meet(2, 3), 0, x.meet(1, 2), NONE);
        UpAllRound y = Make.with(0, 0, 20, 2, 20, 6);
        e.are("of two times the first", y.meet(0, 1), 1, y.meet(0, 2), 3);
        UpAllRound across = Make.with(12, 0, 0, 1);
        e.is("who goes past another does not meet it", across.meet(0, 1), NONE);
    }

    private void lapTerms() {
        e.terms(3, "LAP: behind how many (1 .. 200) a CLIMBER is AT the STEP again first where it is");
        for (int n = 4; n <= 14; n++) {
            for (int km = 0; km <= 69; km++) {
                for (int minute = 0; minute < 4; minute++) {
                    lapOf(Make.after(minute, Make.on(n, km, n - 1)), "lap of " + km + " on " + n + " in minute " + minute);
                }
            }
        }
        e.are("longest", Make.on(14, 60, 3).lap(0, 0), 53, Make.on(4, 63, 3).lap(0, 0), 1, Make.on(4, 53, 1).lap(0, 0), 2);
    }

    private void lapOf(UpAllRound x, String what) {
        int first = 1;
        while (first < 200 && x.then(first, 0, 0) != x.climberIs(0, 2)) {
            first++;
        }
        e.are(what, x.lap(0, 0), first, x.lap(0, 1), x.then(first, 0, 1) - x.climberIs(0, 3));
    }

    private void togetherTerms() {
        e.terms(3, "TOGETHER: behind how many (0 .. 500) all are AT one STEP first.");
        UpAllRound one = Make.with(0, 3);
        UpAllRound alike = Make.with(0, 3, 20, 3, 65, 3);
        UpAllRound two = Make.with(0, 0, 20, 2, 0, 0);
        e.are("first", one.together(), 0, alike.together(), 0, two.together(), 1);
        two.carry(2, 1);
        e.is("two of three are not all", two.together(), NONE);
        UpAllRound last = togetherLate();
        last.minutes(1);
        e.is("the last minute", last.together(), 500);
    }

    /** All are together behind 501 minutes. */
    private static UpAllRound togetherLate() {
        return Make.on(7, 32, 5, 36, 4, 57, 2, 64, 4);
    }

    private void disputeTerms() {
        e.terms(3, "DISPUTE: behind how many (0 .. 200) two are AT one STEP with unlike HEIGHTS first.");
        UpAllRound x = Make.with(0, 2, 0, 2);
        e.is("alike", x.dispute(), NONE);
        x.height(1, 1);
        e.are("at once", x.dispute(), 0, x.carry(1, 3), 2, x.dispute(), NONE);
        x.height(1, 0);
        x.become(1, 20);
        e.are("1 and 1 apart: they never meet", x.dispute(), NONE, x.carry(1, 4), 3, x.dispute(), 1);
        x.height(0, -2);
        e.are("alike when they meet first", x.meet(0, 1), 1, x.dispute(), 5);
        UpAllRound top = Make.with(0, 0, 0, 0);
        top.height(0, 9999);
        top.height(1, 9998);
        e.is("now", top.dispute(), 0);
        top.minutes(1);
        e.is("both held to the most", top.dispute(), NONE);
        UpAllRound last = disputeBehind(198);
        UpAllRound late = disputeBehind(199);
        e.are("the last minute", last.dispute(), 200, late.dispute(), NONE, late.minutes(1), 1, late.dispute(), 200);
    }

    /** A porter and a skipper on one step count alike up to that minute. */
    private static UpAllRound disputeBehind(int minute) {
        UpAllRound x = Make.with(0, 0, 40, 0);
        Make.text(x, 0, "(t>" + minute + ")*5");
        return x;
    }

    private static UpAllRound risen(int... rises) {
        UpAllRound x = Make.on(rises.length);
        for (int i = 0; i < rises.length; i++) {
            x.rise(i, rises[i]);
        }
        return x;
    }

    private void levelsTerms() {
        e.terms(3, "LEVELS: the fewest STEPS whose RISE would have to be 0 for all RISES together to be v");
        UpAllRound x = risen(1, 1, 2, 0, 2, 3);
        e.are("fewest ahead of least", x.levels(9, 0), 0, x.levels(9, 1), 0, x.levels(7, 0), 1, x.levels(7, 1), 4,
            x.levels(6, 1), 32, x.levels(5, 1), 4 | 16, x.levels(0, 0), 5, x.levels(0, 1), 55);
        e.are("of several the least", x.levels(8, 1), 1, x.levels(4, 1), 32 | 4, x.levels(1, 1), 1 | 4 | 16 | 32);
        x.hide(2);
        e.are("the one that is none counts as any", x.levels(9, 0), 0, x.levels(7, 1), 4);
        UpAllRound flat = risen(0, 0, 0, 0);
        e.are("all are level", flat.levels(0, 0), 0, flat.levels(0, 1), 0, flat.levels(1, 0), NONE, flat.levels(-1, 1), NONE);
        UpAllRound most = risen(9, 9, 9, 9, 9, 9, 9, 9, 9, 9, 9, 9, 9, 9);
        e.are("most", most.levels(126, 0), 0, most.levels(126, 1), 0, most.levels(0, 0), 14, most.levels(0, 1), 16383,
            most.levels(-126, 0), NONE, most.levels(9, 1), 8191, most.levels(117, 1), 1, most.levels(125, 0), NONE);
        UpAllRound least = risen(-9, -9, -9, -9, -9, -9, -9, -9, -9, -9, -9, -9, -9, -9);
        e.are("least", least.levels(-126, 0), 0, least.levels(-126, 1), 0, least.levels(0, 1), 16383, least.levels(126, 0), NONE,
            least.levels(-9, 1), 8191, least.levels(-117, 1), 1);
        UpAllRound both = risen(9, -9, 9, -9, 9, -9, 9, -9, 9, -9, 9, -9, 9, -9);
        e.are("both", both.levels(63, 1), 0x2AAA, both.levels(-63, 1), 0x1555, both.levels(0, 1), 0, both.levels(64, 0), NONE,
            both.levels(-64, 0), NONE, both.levels(54, 1), 0xAAA, both.levels(9, 1), 2, both.levels(-9, 1), 1);
    }

    private void suspectsTerms() {
        e.terms(3, "SUSPECTS: a SHEET tells HEIGHTS of a CLIMBER behind 1, 2, .. MINUTES");
        UpAllRound x = Make.on(14, 0, 12, 69, 0);
        x.hide(13);
        Make.sheet(x, 0, 8, 1, 1, 2);
        Make.sheet(x, 1, 8, 1, 2, 3);
        Make.sheet(x, 2, 8);
        Make.sheet(x, 3, 8, 2);
        e.are("in place of the one that is", x.suspects(0, 0), 1 << 13, x.suspects(0, 1), 32767 - (1 << 12) - (1 << 13) - 1,
            x.suspects(0, 2), 32767, x.suspects(0, 3), 0, x.count(3), 13);
        Make.sheet(x, 3, 16, 0, 0, 0);
        e.are("who counts nothing", x.suspects(1, 3), 32767, x.suspects(1, 0), 0);
        x.height(0, 9999);
        Make.sheet(x, 1, 16, 9999, 9999);
        e.is("held", x.suspects(0, 1), 32767);
        UpAllRound few = Make.on(4, 20, 1);
        Make.sheet(few, 0, 8, 0, -1, -2, -3, -3, -4);
        e.are("bit n on four, twice round", few.suspects(0, 0), 1, Make.sheet(few, 0, 8, -1, -2, -3, -4, -5).suspects(0, 0), 16,
            Make.sheet(few, 0, 8, -1, -2, -3, -3, -4, -5, -6, -6).suspects(0, 0), 2);
    }

    private void bestTerms() {
        e.terms(3, "BEST of n MINUTES: the greatest WORTH to a CLIMBER of the STEPS where it is now and behind 1 .. n MINUTES");
        UpAllRound x = Make.with(0, 0, 20, 6);
        x.height(0, 998);
        e.are("held", x.best(0, 0, 0), 998, x.best(0, 1, 0), 999, x.best(0, 9, 0), 999, x.best(0, 9, 1), 1, x.best(0, 9, 2), 1);
        e.are("all worth nothing: the one now", x.best(1, 100, 0), 0, x.best(1, 100, 1), 0, x.best(1, 100, 2), 6);
        Make.text(x, 1, "(s=7)*(h+c)");
        x.height(1, 9);
        e.are("the height then", x.best(1, 100, 0), 9 - 7 + 1, x.best(1, 100, 1), 7, x.best(1, 100, 2), 7, x.best(1, 6, 0), 0,
            x.best(1, 6, 1), 0, x.best(1, 7, 0), 9 - 7 + 1);
    }

    private void oddsTerms() {
        e.terms(3, "ODDS: that two MEET by n MINUTES, the first one being AT each STEP just as likely now");
        UpAllRound x = Make.with(0, 5, 20, 0, 0, 3);
        x.height(1, 77);
        e.are("never none: it may be there now", x.odds(0, 2, 0, 0), 1, x.odds(0, 2, 0, 1), 8, x.odds(0, 2, 100, 0), 1,
            x.odds(0, 2, 100, 1), 8);
        e.are("in lowest terms", x.odds(0, 1, 1, 0), 1, x.odds(0, 1, 1, 1), 4, x.odds(0, 1, 2, 0), 3, x.odds(0, 1, 2, 1), 8,
            x.odds(0, 1, 3, 0), 1, x.odds(0, 1, 3, 1), 2, x.odds(0, 1, 100, 1), 2);
        UpAllRound five = Make.on(5, 0, 0, 20, 0);
        e.are("sure", five.odds(0, 1, 4, 0), 1, five.odds(0, 1, 4, 1), 1, five.odds(0, 1, 3, 0), 4, five.odds(0, 1, 3, 1), 5);
        UpAllRound last = Make.on(6, 38, 3, 39, 0);
        e.are("by 99 and by 100", last.odds(0, 1, 99, 0), 1, last.odds(0, 1, 99, 1), 3, last.odds(0, 1, 100, 0), 1,
            last.odds(0, 1, 100, 1), 2);
    }

    // ---- promises

    private void then() {
        e.promise(19, "THEN, for n (0 .. 200): what 0 AT, 1 HEIGHT (any number).");
        UpAllRound x = Make.with(0, 7, 58, 0);
        x.height(1, -9990);
        e.are("none and all minutes", x.then(0, 0, 0), 7, x.then(0, 1, 1), -9990, x.then(1, 0, 0), 0, x.then(200, 0, 0), 7,
            x.then(200, 0, 1), 200, x.then(199, 0, 0), 6, x.then(1, 1, 1), -9998, x.then(200, 1, 1), -9999);
        e.promise(19, "BEYOND.");
        e.range(Rich::busy, "then", 0, 0, 200, 0, 3, 1);
        e.range(Rich::busy, "then", 1, 0, 3, 7, 0, 1);
        e.range(Rich::full, "then", 1, 0, 5, 7, 0, 0);
        e.range(Rich::busy, "then", 2, 0, 1, 7, 3, 0);
        e.refuses(Edges.BEYOND, Rich::bare, "then", 0, 0, 0);
    }

    private void meet() {
        e.promise(20, "MEET.");
        e.asks(0, () -> Make.with(0, 3, 65, 3), "meet", 0, 1);
        e.asks(2, () -> Make.with(0, 0, 0, 7, 20, 4), "meet", 2, 0);
        e.promise(20, "BEYOND: also one and the same.");
        e.range(Rich::busy, "meet", 0, 0, 2, 0, 3);
        e.range(Rich::busy, "meet", 1, 1, 3, 0, 0);
        e.range(Rich::full, "meet", 1, 1, 5, 0, 0);
        for (int climber = 0; climber <= 4; climber++) {
            e.refuses(Edges.BEYOND, Rich::busy, "meet", climber, climber);
        }
        e.refuses(Edges.BEYOND, () -> Make.with(0, 0), "meet", 0, 1);
        e.promise(20, "NONE: not by 200.");
        e.refuses(Edges.NONE, () -> Make.with(0, 0, 0, 1), "meet", 0, 1);
        e.refuses(Edges.NONE, () -> meetLate(7, 8, 37, 39, 2), "meet", 0, 1);
        e.refuses(Edges.NONE, () -> meetLate(9, 15, 35, 34, 7), "meet", 1, 0);
        UpAllRound x = meetLate(7, 8, 37, 39, 2);
        UpAllRound y = meetLate(9, 15, 35, 34, 7);
        e.are("a minute on", x.minutes(1), 0, x.meet(0, 1), 200, y.minutes(1), 0, y.meet(1, 0), 200);
    }

    /** They meet behind 201 minutes. */
    private static UpAllRound meetLate(int steps, int minute, int km, int other, int step) {
        UpAllRound x = Make.after(minute, Make.on(steps, km, 0, other, 0));
        x.carry(0, 0);
        x.carry(1, step);
        return x;
    }

    private void lap() {
        e.promise(21, "LAP: what 0 behind how many MINUTES, 1 how much more HEIGHT is (any number).");
        UpAllRound x = Make.on(14, 0, 13, 20, 0, 60, 3);
        x.height(0, 9990);
        x.height(1, 9999);
        e.are("lap", x.lap(0, 0), 14, x.lap(0, 1), 9, x.lap(1, 0), 14, x.lap(1, 1), -14, x.lap(2, 0), 53, x.lap(2, 1), 0);
        x.height(0, 9999);
        x.height(1, -9999);
        e.are("held", x.lap(0, 1), 0, x.lap(1, 1), 0);
        Make.text(x, 0, "0-99");
        e.are("far", x.lap(0, 1), -14 * 99, x.lap(1, 1), 14 * 99);
        e.asks(14, () -> Make.on(14, 0, 13), "lap", 0, 0);
        e.promise(21, "BEYOND.");
        e.range(Rich::busy, "lap", 0, 0, 3, 0, 0);
        e.range(Rich::full, "lap", 0, 0, 5, 0, 1);
        e.range(Rich::busy, "lap", 1, 0, 1, 3, 0);
        e.refuses(Edges.BEYOND, Rich::bare, "lap", 0, 0);
        e.promise(21, "NONE: not by 200.");
        int longest = 0;
        for (int km = 0; km <= 69; km++) {
            for (int n = 4; n <= 14; n++) {
                for (int minute = 0; minute < 10; minute++) {
                    longest = Math.max(longest, Make.after(minute, Make.on(n, km, 0)).lap(0, 0));
                }
            }
        }
        e.is("no kind is away for so long", longest, 53);
    }

    private void together() {
        e.promise(22, "TOGETHER.");
        e.asks(0, () -> Make.with(0, 3), "together");
        e.asks(1, () -> Make.on(4, 0, 3, 20, 1, 53, 2, 69, 2, 40, 3, 37, 1), "together");
        e.promise(22, "STATE: there are no CLIMBERS.");
        e.refuses(Edges.STATE, Rich::bare, "together");
        e.refuses(Edges.STATE, UpAllRound::new, "together");
        UpAllRound x = Rich.bare();
        e.are("one of them is all", x.climber(0, 5), 0, x.together(), 0, x.restore(), 7, x.together(), Edges.LOW - Edges.STATE);
        e.promise(22, "NONE: not by 500.");
        e.refuses(Edges.NONE, () -> Make.with(0, 0, 0, 1), "together");
        e.refuses(Edges.NONE, ThoughtEdges::togetherLate, "together");
        UpAllRound y = togetherLate();
        y.minutes(1);
        e.are("a minute on", y.together(), 500, y.told(2), 0);
    }

    private void dispute() {
        e.promise(23, "DISPUTE.");
        e.asks(3, () -> Make.with(0, 0, 20, 6), "dispute");
        e.asks(15, ThoughtEdges::unlikeAtTheEnd, "dispute");
        e.promise(23, "NONE: not by 200.");
        e.refuses(Edges.NONE, Rich::bare, "dispute");
        e.refuses(Edges.NONE, () -> Make.with(0, 0), "dispute");
        e.refuses(Edges.NONE, () -> Make.with(0, 0, 0, 0), "dispute");
        e.refuses(Edges.NONE, () -> disputeBehind(199), "dispute");
        e.asks(200, () -> disputeBehind(198), "dispute");
    }

    /** Five are alike always; the last two on the list are not, behind fifteen minutes. */
    private static UpAllRound unlikeAtTheEnd() {
        UpAllRound x = Make.with(0, 0, 0, 1, 0, 2, 0, 3, 0, 5, 40, 5);
        Make.text(x, 0, "1+(t=14)");
        return x;
    }

    private void levels() {
        e.promise(24, "LEVELS, for v (-126 .. 126): what 0 how many, 1 the set.");
        e.asks(3, UpAllRound::new, "levels", 5, 0);
        e.asks(7, UpAllRound::new, "levels", 5, 1);
        e.asks(0, UpAllRound::new, "levels", 8, 0);
        e.asks(255, UpAllRound::new, "levels", 0, 1);
        e.promise(24, "BEYOND.");
        e.range(Rich::busy, "levels", 0, -126, 126, 0, 0);
        e.range(UpAllRound::new, "levels", 0, -126, 126, 0, 1);
        e.range(Rich::busy, "levels", 1, 0, 1, 5, 0);
        e.refuses(Edges.BEYOND, Rich::busy, "levels", -126, 2);
        e.promise(24, "NONE: by none.");
        e.refuses(Edges.NONE, UpAllRound::new, "levels", 9, 0);
        e.refuses(Edges.NONE, UpAllRound::new, "levels", -1, 1);
        e.refuses(Edges.NONE, Rich::busy, "levels", 126, 0);
        e.refuses(Edges.NONE, Rich::busy, "levels", -126, 1);
        e.refuses(Edges.NONE, () -> risen(2, 2, 2, 2), "levels", 3, 0);
    }

    private void suspects() {
        e.promise(25, "SUSPECTS, by a SHEET.");
        UpAllRound x = Make.with(0, 0);
        x.height(0, 200);
        Make.sheet(x, 0, 8, 201);
        Make.sheet(x, 1, 16, 201);
        Make.sheet(x, 2, 32, 65536 + 201);
        e.are("as the sheet has them", x.suspects(0, 0), 0, x.suspects(0, 1), 511 - 1, x.suspects(0, 2), 0);
        x.height(0, 127);
        Make.sheet(x, 0, 8, 128);
        e.is("no height is 128 in 8 bits", x.suspects(0, 0), 0);
        UpAllRound all = Make.on(14, 0, 0);
        all.sheet(3, 16, 24);
        for (int i = 0; i < 24; i++) {
            all.put(3, i, i + 1);
        }
        e.are("all 24", all.suspects(0, 3), 1 << 14, all.put(3, 23, 25), 1, all.suspects(0, 3), 0, all.put(3, 23, 24), 1,
            all.put(3, 0, 0), 1, all.suspects(0, 3), 0);
        e.promise(25, "BEYOND.");
        e.range(Rich::busy, "suspects", 0, 0, 3, 0, 0);
        e.range(Rich::busy, "suspects", 1, 0, 3, 0, 0);
        e.refuses(Edges.BEYOND, Rich::bare, "suspects", 0, 0);
        e.refuses(Edges.BEYOND, Rich::busy, "suspects", 4, MISSING);
        e.promise(25, "NONE: the SHEET is missing.");
        e.refuses(Edges.NONE, Rich::busy, "suspects", 0, MISSING);
        e.refuses(Edges.NONE, () -> Make.with(0, 0), "suspects", 0, 0);
        UpAllRound gone = Rich.busy();
        e.are("no more there", gone.sheet(0, 0, 0), 1, gone.suspects(0, 0), NONE, gone.sheet(0, 8, 0), 1,
            gone.suspects(0, 0), 127);
    }

    private void best() {
        e.promise(26, "BEST, for n (0 .. 100): what 0 the WORTH, 1 behind how many MINUTES, 2 the STEP.");
        UpAllRound x = Make.with(0, 3);
        e.are("now alone", x.best(0, 0, 0), 0, x.best(0, 0, 1), 0, x.best(0, 0, 2), 3);
        e.are("the last of a hundred", x.best(0, 100, 0), 100, x.best(0, 100, 1), 100, x.best(0, 100, 2), 7, x.best(0, 99, 0), 99,
            x.best(0, 99, 1), 99, x.best(0, 99, 2), 6);
        Make.text(x, 1, "s=2");
        e.are("the first of many", x.best(0, 100, 0), 1, x.best(0, 100, 1), 7, x.best(0, 100, 2), 2, x.best(0, 6, 0), 0,
            x.best(0, 6, 1), 0, x.best(0, 6, 2), 3);
        e.asks(100, () -> Make.with(0, 3), "best", 0, 100, 0);
        e.promise(26, "BEYOND.");
        e.range(Rich::busy, "best", 0, 0, 3, 0, 7, 0);
        e.range(Rich::full, "best", 0, 0, 5, 0, 7, 1);
        e.range(Rich::busy, "best", 1, 0, 100, 3, 0, 2);
        e.range(Rich::busy, "best", 2, 0, 2, 3, 7, 0);
        e.refuses(Edges.BEYOND, Rich::bare, "best", 0, 0, 0);
    }

    private void odds() {
        e.promise(27, "ODDS, for n (0 .. 100): part 0 above, 1 below the line.");
        e.asks(1, () -> Make.on(14, 0, 0, 20, 5), "odds", 0, 1, 0, 0);
        e.asks(14, () -> Make.on(14, 0, 0, 20, 5), "odds", 0, 1, 0, 1);
        e.asks(1, () -> Make.on(6, 38, 3, 39, 0), "odds", 0, 1, 100, 0);
        e.asks(2, () -> Make.on(6, 38, 3, 39, 0), "odds", 0, 1, 100, 1);
        e.promise(27, "BEYOND: also one and the same.");
        e.range(Rich::busy, "odds", 0, 0, 2, 0, 3, 5, 0);
        e.range(Rich::busy, "odds", 1, 1, 3, 0, 0, 5, 1);
        e.range(Rich::full, "odds", 1, 1, 5, 0, 0, 5, 1);
        e.range(Rich::busy, "odds", 2, 0, 100, 0, 1, 0, 0);
        e.range(Rich::busy, "odds", 3, 0, 1, 0, 1, 5, 0);
        for (int climber = 0; climber <= 4; climber++) {
            e.refuses(Edges.BEYOND, Rich::busy, "odds", climber, climber, 5, 0);
        }
        e.refuses(Edges.BEYOND, () -> Make.with(0, 0), "odds", 0, 1, 0, 0);
    }
}
